section
-- ===== PART A: goes FIRST, ahead of the names: the tables' words, and 'selects' of the private methods out of them =====
/-- a private method of a class that the tables say can be made, by its rows of tables_1 -/
def lw_okq (q : MethodName × Nat) : Prop := (q.1.cls ≠ "java/lang/invoke/MethodHandle" ∧ q.1.cls ≠ "java/lang/invoke/VarHandle") ∧ Cond.instantiable q.1.cls q.2 ∈ tables_1 ∧ Cond.privateMethod q.1 ∈ tables_1 ∧ Cond.instanceMethod q.1 ∈ tables_1
theorem lw_p0 : lw_okq (⟨"WordMachine", "step", "()V"⟩, 14) := ⟨⟨by decide +kernel, by decide +kernel⟩, List.mem_of_getElem? (i := 5) (by decide +kernel), List.mem_of_getElem? (i := 93) (by decide +kernel), List.mem_of_getElem? (i := 94) (by decide +kernel)⟩
theorem lw_p1 : lw_okq (⟨"WordMachine", "read", "(I)J"⟩, 14) := ⟨⟨by decide +kernel, by decide +kernel⟩, List.mem_of_getElem? (i := 5) (by decide +kernel), List.mem_of_getElem? (i := 97) (by decide +kernel), List.mem_of_getElem? (i := 98) (by decide +kernel)⟩
theorem lw_p2 : lw_okq (⟨"WordMachine", "placeOf", "(I)I"⟩, 14) := ⟨⟨by decide +kernel, by decide +kernel⟩, List.mem_of_getElem? (i := 5) (by decide +kernel), List.mem_of_getElem? (i := 101) (by decide +kernel), List.mem_of_getElem? (i := 102) (by decide +kernel)⟩
theorem lw_p3 : lw_okq (⟨"WordMachine", "raise", "(I)V"⟩, 14) := ⟨⟨by decide +kernel, by decide +kernel⟩, List.mem_of_getElem? (i := 5) (by decide +kernel), List.mem_of_getElem? (i := 106) (by decide +kernel), List.mem_of_getElem? (i := 107) (by decide +kernel)⟩
theorem lw_p4 : lw_okq (⟨"WordMachine", "effective", "(J)I"⟩, 14) := ⟨⟨by decide +kernel, by decide +kernel⟩, List.mem_of_getElem? (i := 5) (by decide +kernel), List.mem_of_getElem? (i := 113) (by decide +kernel), List.mem_of_getElem? (i := 114) (by decide +kernel)⟩
theorem lw_p5 : lw_okq (⟨"WordMachine", "indexed", "(J)I"⟩, 14) := ⟨⟨by decide +kernel, by decide +kernel⟩, List.mem_of_getElem? (i := 5) (by decide +kernel), List.mem_of_getElem? (i := 117) (by decide +kernel), List.mem_of_getElem? (i := 118) (by decide +kernel)⟩
theorem lw_p6 : lw_okq (⟨"WordMachine", "take", "(I)J"⟩, 14) := ⟨⟨by decide +kernel, by decide +kernel⟩, List.mem_of_getElem? (i := 5) (by decide +kernel), List.mem_of_getElem? (i := 127) (by decide +kernel), List.mem_of_getElem? (i := 128) (by decide +kernel)⟩
theorem lw_p7 : lw_okq (⟨"WordMachine", "carryOut", "(III)V"⟩, 14) := ⟨⟨by decide +kernel, by decide +kernel⟩, List.mem_of_getElem? (i := 5) (by decide +kernel), List.mem_of_getElem? (i := 137) (by decide +kernel), List.mem_of_getElem? (i := 138) (by decide +kernel)⟩
theorem lw_p8 : lw_okq (⟨"WordMachine", "bytes", "(III)V"⟩, 14) := ⟨⟨by decide +kernel, by decide +kernel⟩, List.mem_of_getElem? (i := 5) (by decide +kernel), List.mem_of_getElem? (i := 141) (by decide +kernel), List.mem_of_getElem? (i := 142) (by decide +kernel)⟩
theorem lw_p9 : lw_okq (⟨"WordMachine", "advancePointer", "(I)V"⟩, 14) := ⟨⟨by decide +kernel, by decide +kernel⟩, List.mem_of_getElem? (i := 5) (by decide +kernel), List.mem_of_getElem? (i := 145) (by decide +kernel), List.mem_of_getElem? (i := 146) (by decide +kernel)⟩
theorem lw_p10 : lw_okq (⟨"WordMachine", "write", "(IJ)V"⟩, 14) := ⟨⟨by decide +kernel, by decide +kernel⟩, List.mem_of_getElem? (i := 5) (by decide +kernel), List.mem_of_getElem? (i := 164) (by decide +kernel), List.mem_of_getElem? (i := 165) (by decide +kernel)⟩
theorem lw_p11 : lw_okq (⟨"WordMachine", "loadByte", "(IJI)V"⟩, 14) := ⟨⟨by decide +kernel, by decide +kernel⟩, List.mem_of_getElem? (i := 5) (by decide +kernel), List.mem_of_getElem? (i := 168) (by decide +kernel), List.mem_of_getElem? (i := 169) (by decide +kernel)⟩
theorem lw_p12 : lw_okq (⟨"WordMachine", "setAccumulator", "(IJ)V"⟩, 14) := ⟨⟨by decide +kernel, by decide +kernel⟩, List.mem_of_getElem? (i := 5) (by decide +kernel), List.mem_of_getElem? (i := 178) (by decide +kernel), List.mem_of_getElem? (i := 179) (by decide +kernel)⟩
theorem lw_p13 : lw_okq (⟨"WordMachine", "depositByte", "(IJI)V"⟩, 14) := ⟨⟨by decide +kernel, by decide +kernel⟩, List.mem_of_getElem? (i := 5) (by decide +kernel), List.mem_of_getElem? (i := 182) (by decide +kernel), List.mem_of_getElem? (i := 183) (by decide +kernel)⟩
theorem lw_p14 : lw_okq (⟨"WordMachine", "move", "(III)V"⟩, 14) := ⟨⟨by decide +kernel, by decide +kernel⟩, List.mem_of_getElem? (i := 5) (by decide +kernel), List.mem_of_getElem? (i := 186) (by decide +kernel), List.mem_of_getElem? (i := 187) (by decide +kernel)⟩
theorem lw_p15 : lw_okq (⟨"WordMachine", "movedSource", "(III)J"⟩, 14) := ⟨⟨by decide +kernel, by decide +kernel⟩, List.mem_of_getElem? (i := 5) (by decide +kernel), List.mem_of_getElem? (i := 190) (by decide +kernel), List.mem_of_getElem? (i := 191) (by decide +kernel)⟩
def lw_privs_1 : List (MethodName × Nat) := [(⟨"WordMachine", "step", "()V"⟩, 14), (⟨"WordMachine", "read", "(I)J"⟩, 14), (⟨"WordMachine", "placeOf", "(I)I"⟩, 14), (⟨"WordMachine", "raise", "(I)V"⟩, 14), (⟨"WordMachine", "effective", "(J)I"⟩, 14), (⟨"WordMachine", "indexed", "(J)I"⟩, 14), (⟨"WordMachine", "take", "(I)J"⟩, 14), (⟨"WordMachine", "carryOut", "(III)V"⟩, 14), (⟨"WordMachine", "bytes", "(III)V"⟩, 14), (⟨"WordMachine", "advancePointer", "(I)V"⟩, 14), (⟨"WordMachine", "write", "(IJ)V"⟩, 14), (⟨"WordMachine", "loadByte", "(IJI)V"⟩, 14), (⟨"WordMachine", "setAccumulator", "(IJ)V"⟩, 14), (⟨"WordMachine", "depositByte", "(IJI)V"⟩, 14), (⟨"WordMachine", "move", "(III)V"⟩, 14), (⟨"WordMachine", "movedSource", "(III)J"⟩, 14)]
theorem lw_r1 : ∀ q ∈ lw_privs_1, lw_okq q := List.forall_mem_cons.mpr ⟨lw_p0, List.forall_mem_cons.mpr ⟨lw_p1, List.forall_mem_cons.mpr ⟨lw_p2, List.forall_mem_cons.mpr ⟨lw_p3, List.forall_mem_cons.mpr ⟨lw_p4, List.forall_mem_cons.mpr ⟨lw_p5, List.forall_mem_cons.mpr ⟨lw_p6, List.forall_mem_cons.mpr ⟨lw_p7, List.forall_mem_cons.mpr ⟨lw_p8, List.forall_mem_cons.mpr ⟨lw_p9, List.forall_mem_cons.mpr ⟨lw_p10, List.forall_mem_cons.mpr ⟨lw_p11, List.forall_mem_cons.mpr ⟨lw_p12, List.forall_mem_cons.mpr ⟨lw_p13, List.forall_mem_cons.mpr ⟨lw_p14, List.forall_mem_cons.mpr ⟨lw_p15, fun _ h => absurd h List.not_mem_nil⟩⟩⟩⟩⟩⟩⟩⟩⟩⟩⟩⟩⟩⟩⟩⟩
theorem lw_p16 : lw_okq (⟨"WordMachine", "source", "(II)J"⟩, 14) := ⟨⟨by decide +kernel, by decide +kernel⟩, List.mem_of_getElem? (i := 5) (by decide +kernel), List.mem_of_getElem? (i := 194) (by decide +kernel), List.mem_of_getElem? (i := 195) (by decide +kernel)⟩
theorem lw_p17 : lw_okq (⟨"WordMachine", "changedToMove", "(IJ)J"⟩, 14) := ⟨⟨by decide +kernel, by decide +kernel⟩, List.mem_of_getElem? (i := 5) (by decide +kernel), List.mem_of_getElem? (i := 198) (by decide +kernel), List.mem_of_getElem? (i := 199) (by decide +kernel)⟩
theorem lw_p18 : lw_okq (⟨"WordMachine", "fitted", "(J)J"⟩, 14) := ⟨⟨by decide +kernel, by decide +kernel⟩, List.mem_of_getElem? (i := 5) (by decide +kernel), List.mem_of_getElem? (i := 205) (by decide +kernel), List.mem_of_getElem? (i := 206) (by decide +kernel)⟩
theorem lw_p19 : lw_okq (⟨"WordMachine", "setOverflow", "()V"⟩, 14) := ⟨⟨by decide +kernel, by decide +kernel⟩, List.mem_of_getElem? (i := 5) (by decide +kernel), List.mem_of_getElem? (i := 209) (by decide +kernel), List.mem_of_getElem? (i := 210) (by decide +kernel)⟩
theorem lw_p20 : lw_okq (⟨"WordMachine", "putMoved", "(IIIJ)V"⟩, 14) := ⟨⟨by decide +kernel, by decide +kernel⟩, List.mem_of_getElem? (i := 5) (by decide +kernel), List.mem_of_getElem? (i := 216) (by decide +kernel), List.mem_of_getElem? (i := 217) (by decide +kernel)⟩
theorem lw_p21 : lw_okq (⟨"WordMachine", "setAccumulatorButZero", "(IJ)V"⟩, 14) := ⟨⟨by decide +kernel, by decide +kernel⟩, List.mem_of_getElem? (i := 5) (by decide +kernel), List.mem_of_getElem? (i := 220) (by decide +kernel), List.mem_of_getElem? (i := 221) (by decide +kernel)⟩
theorem lw_p22 : lw_okq (⟨"WordMachine", "multiply", "(III)V"⟩, 14) := ⟨⟨by decide +kernel, by decide +kernel⟩, List.mem_of_getElem? (i := 5) (by decide +kernel), List.mem_of_getElem? (i := 224) (by decide +kernel), List.mem_of_getElem? (i := 225) (by decide +kernel)⟩
theorem lw_p23 : lw_okq (⟨"WordMachine", "putResult", "(IIIJ)V"⟩, 14) := ⟨⟨by decide +kernel, by decide +kernel⟩, List.mem_of_getElem? (i := 5) (by decide +kernel), List.mem_of_getElem? (i := 234) (by decide +kernel), List.mem_of_getElem? (i := 235) (by decide +kernel)⟩
theorem lw_p24 : lw_okq (⟨"WordMachine", "divide", "(III)V"⟩, 14) := ⟨⟨by decide +kernel, by decide +kernel⟩, List.mem_of_getElem? (i := 5) (by decide +kernel), List.mem_of_getElem? (i := 238) (by decide +kernel), List.mem_of_getElem? (i := 239) (by decide +kernel)⟩
theorem lw_p25 : lw_okq (⟨"WordMachine", "shift", "(III)V"⟩, 14) := ⟨⟨by decide +kernel, by decide +kernel⟩, List.mem_of_getElem? (i := 5) (by decide +kernel), List.mem_of_getElem? (i := 243) (by decide +kernel), List.mem_of_getElem? (i := 244) (by decide +kernel)⟩
theorem lw_p26 : lw_okq (⟨"WordMachine", "shiftedAsNumber", "(JI)J"⟩, 14) := ⟨⟨by decide +kernel, by decide +kernel⟩, List.mem_of_getElem? (i := 5) (by decide +kernel), List.mem_of_getElem? (i := 247) (by decide +kernel), List.mem_of_getElem? (i := 248) (by decide +kernel)⟩
theorem lw_p27 : lw_okq (⟨"WordMachine", "exchangeOrJump", "(III)V"⟩, 14) := ⟨⟨by decide +kernel, by decide +kernel⟩, List.mem_of_getElem? (i := 5) (by decide +kernel), List.mem_of_getElem? (i := 262) (by decide +kernel), List.mem_of_getElem? (i := 263) (by decide +kernel)⟩
theorem lw_p28 : lw_okq (⟨"WordMachine", "exchange", "(II)V"⟩, 14) := ⟨⟨by decide +kernel, by decide +kernel⟩, List.mem_of_getElem? (i := 5) (by decide +kernel), List.mem_of_getElem? (i := 266) (by decide +kernel), List.mem_of_getElem? (i := 267) (by decide +kernel)⟩
theorem lw_p29 : lw_okq (⟨"WordMachine", "block", "(II)V"⟩, 14) := ⟨⟨by decide +kernel, by decide +kernel⟩, List.mem_of_getElem? (i := 5) (by decide +kernel), List.mem_of_getElem? (i := 270) (by decide +kernel), List.mem_of_getElem? (i := 271) (by decide +kernel)⟩
theorem lw_p30 : lw_okq (⟨"WordMachine", "moveHalves", "(II)V"⟩, 14) := ⟨⟨by decide +kernel, by decide +kernel⟩, List.mem_of_getElem? (i := 5) (by decide +kernel), List.mem_of_getElem? (i := 274) (by decide +kernel), List.mem_of_getElem? (i := 275) (by decide +kernel)⟩
theorem lw_p31 : lw_okq (⟨"WordMachine", "jumpIf", "(ZI)V"⟩, 14) := ⟨⟨by decide +kernel, by decide +kernel⟩, List.mem_of_getElem? (i := 5) (by decide +kernel), List.mem_of_getElem? (i := 278) (by decide +kernel), List.mem_of_getElem? (i := 279) (by decide +kernel)⟩
def lw_privs_2 : List (MethodName × Nat) := [(⟨"WordMachine", "source", "(II)J"⟩, 14), (⟨"WordMachine", "changedToMove", "(IJ)J"⟩, 14), (⟨"WordMachine", "fitted", "(J)J"⟩, 14), (⟨"WordMachine", "setOverflow", "()V"⟩, 14), (⟨"WordMachine", "putMoved", "(IIIJ)V"⟩, 14), (⟨"WordMachine", "setAccumulatorButZero", "(IJ)V"⟩, 14), (⟨"WordMachine", "multiply", "(III)V"⟩, 14), (⟨"WordMachine", "putResult", "(IIIJ)V"⟩, 14), (⟨"WordMachine", "divide", "(III)V"⟩, 14), (⟨"WordMachine", "shift", "(III)V"⟩, 14), (⟨"WordMachine", "shiftedAsNumber", "(JI)J"⟩, 14), (⟨"WordMachine", "exchangeOrJump", "(III)V"⟩, 14), (⟨"WordMachine", "exchange", "(II)V"⟩, 14), (⟨"WordMachine", "block", "(II)V"⟩, 14), (⟨"WordMachine", "moveHalves", "(II)V"⟩, 14), (⟨"WordMachine", "jumpIf", "(ZI)V"⟩, 14)]
theorem lw_r2 : ∀ q ∈ lw_privs_2, lw_okq q := List.forall_mem_cons.mpr ⟨lw_p16, List.forall_mem_cons.mpr ⟨lw_p17, List.forall_mem_cons.mpr ⟨lw_p18, List.forall_mem_cons.mpr ⟨lw_p19, List.forall_mem_cons.mpr ⟨lw_p20, List.forall_mem_cons.mpr ⟨lw_p21, List.forall_mem_cons.mpr ⟨lw_p22, List.forall_mem_cons.mpr ⟨lw_p23, List.forall_mem_cons.mpr ⟨lw_p24, List.forall_mem_cons.mpr ⟨lw_p25, List.forall_mem_cons.mpr ⟨lw_p26, List.forall_mem_cons.mpr ⟨lw_p27, List.forall_mem_cons.mpr ⟨lw_p28, List.forall_mem_cons.mpr ⟨lw_p29, List.forall_mem_cons.mpr ⟨lw_p30, List.forall_mem_cons.mpr ⟨lw_p31, fun _ h => absurd h List.not_mem_nil⟩⟩⟩⟩⟩⟩⟩⟩⟩⟩⟩⟩⟩⟩⟩⟩
theorem lw_p32 : lw_okq (⟨"WordMachine", "jumpByAccumulator", "(II)V"⟩, 14) := ⟨⟨by decide +kernel, by decide +kernel⟩, List.mem_of_getElem? (i := 5) (by decide +kernel), List.mem_of_getElem? (i := 282) (by decide +kernel), List.mem_of_getElem? (i := 283) (by decide +kernel)⟩
theorem lw_p33 : lw_okq (⟨"WordMachine", "stack", "(III)V"⟩, 14) := ⟨⟨by decide +kernel, by decide +kernel⟩, List.mem_of_getElem? (i := 5) (by decide +kernel), List.mem_of_getElem? (i := 286) (by decide +kernel), List.mem_of_getElem? (i := 287) (by decide +kernel)⟩
theorem lw_p34 : lw_okq (⟨"WordMachine", "growStack", "(I)V"⟩, 14) := ⟨⟨by decide +kernel, by decide +kernel⟩, List.mem_of_getElem? (i := 5) (by decide +kernel), List.mem_of_getElem? (i := 290) (by decide +kernel), List.mem_of_getElem? (i := 291) (by decide +kernel)⟩
theorem lw_p35 : lw_okq (⟨"WordMachine", "pcWord", "()J"⟩, 14) := ⟨⟨by decide +kernel, by decide +kernel⟩, List.mem_of_getElem? (i := 5) (by decide +kernel), List.mem_of_getElem? (i := 294) (by decide +kernel), List.mem_of_getElem? (i := 295) (by decide +kernel)⟩
theorem lw_p36 : lw_okq (⟨"WordMachine", "flags", "()I"⟩, 14) := ⟨⟨by decide +kernel, by decide +kernel⟩, List.mem_of_getElem? (i := 5) (by decide +kernel), List.mem_of_getElem? (i := 298) (by decide +kernel), List.mem_of_getElem? (i := 299) (by decide +kernel)⟩
theorem lw_p37 : lw_okq (⟨"WordMachine", "shrinkStack", "(I)V"⟩, 14) := ⟨⟨by decide +kernel, by decide +kernel⟩, List.mem_of_getElem? (i := 5) (by decide +kernel), List.mem_of_getElem? (i := 302) (by decide +kernel), List.mem_of_getElem? (i := 303) (by decide +kernel)⟩
theorem lw_p38 : lw_okq (⟨"WordMachine", "sum", "(III)V"⟩, 14) := ⟨⟨by decide +kernel, by decide +kernel⟩, List.mem_of_getElem? (i := 5) (by decide +kernel), List.mem_of_getElem? (i := 306) (by decide +kernel), List.mem_of_getElem? (i := 307) (by decide +kernel)⟩
theorem lw_p39 : lw_okq (⟨"WordMachine", "compare", "(III)V"⟩, 14) := ⟨⟨by decide +kernel, by decide +kernel⟩, List.mem_of_getElem? (i := 5) (by decide +kernel), List.mem_of_getElem? (i := 310) (by decide +kernel), List.mem_of_getElem? (i := 311) (by decide +kernel)⟩
theorem lw_p40 : lw_okq (⟨"WordMachine", "skipIf", "(Z)V"⟩, 14) := ⟨⟨by decide +kernel, by decide +kernel⟩, List.mem_of_getElem? (i := 5) (by decide +kernel), List.mem_of_getElem? (i := 317) (by decide +kernel), List.mem_of_getElem? (i := 318) (by decide +kernel)⟩
theorem lw_p41 : lw_okq (⟨"WordMachine", "skipOnWord", "(IIJ)V"⟩, 14) := ⟨⟨by decide +kernel, by decide +kernel⟩, List.mem_of_getElem? (i := 5) (by decide +kernel), List.mem_of_getElem? (i := 321) (by decide +kernel), List.mem_of_getElem? (i := 322) (by decide +kernel)⟩
theorem lw_p42 : lw_okq (⟨"WordMachine", "countAndJump", "(IIII)V"⟩, 14) := ⟨⟨by decide +kernel, by decide +kernel⟩, List.mem_of_getElem? (i := 5) (by decide +kernel), List.mem_of_getElem? (i := 325) (by decide +kernel), List.mem_of_getElem? (i := 326) (by decide +kernel)⟩
theorem lw_p43 : lw_okq (⟨"WordMachine", "countAndSkip", "(IIII)V"⟩, 14) := ⟨⟨by decide +kernel, by decide +kernel⟩, List.mem_of_getElem? (i := 5) (by decide +kernel), List.mem_of_getElem? (i := 329) (by decide +kernel), List.mem_of_getElem? (i := 330) (by decide +kernel)⟩
theorem lw_p44 : lw_okq (⟨"WordMachine", "logic", "(III)V"⟩, 14) := ⟨⟨by decide +kernel, by decide +kernel⟩, List.mem_of_getElem? (i := 5) (by decide +kernel), List.mem_of_getElem? (i := 333) (by decide +kernel), List.mem_of_getElem? (i := 334) (by decide +kernel)⟩
theorem lw_p45 : lw_okq (⟨"WordMachine", "halves", "(III)V"⟩, 14) := ⟨⟨by decide +kernel, by decide +kernel⟩, List.mem_of_getElem? (i := 5) (by decide +kernel), List.mem_of_getElem? (i := 337) (by decide +kernel), List.mem_of_getElem? (i := 338) (by decide +kernel)⟩
theorem lw_p46 : lw_okq (⟨"WordMachine", "test", "(III)V"⟩, 14) := ⟨⟨by decide +kernel, by decide +kernel⟩, List.mem_of_getElem? (i := 5) (by decide +kernel), List.mem_of_getElem? (i := 344) (by decide +kernel), List.mem_of_getElem? (i := 345) (by decide +kernel)⟩
theorem lw_p47 : lw_okq (⟨"WordMachine", "enterTrap", "(I)V"⟩, 14) := ⟨⟨by decide +kernel, by decide +kernel⟩, List.mem_of_getElem? (i := 5) (by decide +kernel), List.mem_of_getElem? (i := 354) (by decide +kernel), List.mem_of_getElem? (i := 355) (by decide +kernel)⟩
def lw_privs_3 : List (MethodName × Nat) := [(⟨"WordMachine", "jumpByAccumulator", "(II)V"⟩, 14), (⟨"WordMachine", "stack", "(III)V"⟩, 14), (⟨"WordMachine", "growStack", "(I)V"⟩, 14), (⟨"WordMachine", "pcWord", "()J"⟩, 14), (⟨"WordMachine", "flags", "()I"⟩, 14), (⟨"WordMachine", "shrinkStack", "(I)V"⟩, 14), (⟨"WordMachine", "sum", "(III)V"⟩, 14), (⟨"WordMachine", "compare", "(III)V"⟩, 14), (⟨"WordMachine", "skipIf", "(Z)V"⟩, 14), (⟨"WordMachine", "skipOnWord", "(IIJ)V"⟩, 14), (⟨"WordMachine", "countAndJump", "(IIII)V"⟩, 14), (⟨"WordMachine", "countAndSkip", "(IIII)V"⟩, 14), (⟨"WordMachine", "logic", "(III)V"⟩, 14), (⟨"WordMachine", "halves", "(III)V"⟩, 14), (⟨"WordMachine", "test", "(III)V"⟩, 14), (⟨"WordMachine", "enterTrap", "(I)V"⟩, 14)]
theorem lw_r3 : ∀ q ∈ lw_privs_3, lw_okq q := List.forall_mem_cons.mpr ⟨lw_p32, List.forall_mem_cons.mpr ⟨lw_p33, List.forall_mem_cons.mpr ⟨lw_p34, List.forall_mem_cons.mpr ⟨lw_p35, List.forall_mem_cons.mpr ⟨lw_p36, List.forall_mem_cons.mpr ⟨lw_p37, List.forall_mem_cons.mpr ⟨lw_p38, List.forall_mem_cons.mpr ⟨lw_p39, List.forall_mem_cons.mpr ⟨lw_p40, List.forall_mem_cons.mpr ⟨lw_p41, List.forall_mem_cons.mpr ⟨lw_p42, List.forall_mem_cons.mpr ⟨lw_p43, List.forall_mem_cons.mpr ⟨lw_p44, List.forall_mem_cons.mpr ⟨lw_p45, List.forall_mem_cons.mpr ⟨lw_p46, List.forall_mem_cons.mpr ⟨lw_p47, fun _ h => absurd h List.not_mem_nil⟩⟩⟩⟩⟩⟩⟩⟩⟩⟩⟩⟩⟩⟩⟩⟩
theorem lw_p48 : lw_okq (⟨"WordMachineModel", "makeStep", "()V"⟩, 12) := ⟨⟨by decide +kernel, by decide +kernel⟩, List.mem_of_getElem? (i := 362) (by decide +kernel), List.mem_of_getElem? (i := 437) (by decide +kernel), List.mem_of_getElem? (i := 438) (by decide +kernel)⟩
theorem lw_p49 : lw_okq (⟨"WordMachineModel", "get", "(I)J"⟩, 12) := ⟨⟨by decide +kernel, by decide +kernel⟩, List.mem_of_getElem? (i := 362) (by decide +kernel), List.mem_of_getElem? (i := 441) (by decide +kernel), List.mem_of_getElem? (i := 442) (by decide +kernel)⟩
theorem lw_p50 : lw_okq (⟨"WordMachineModel", "where", "(I)I"⟩, 12) := ⟨⟨by decide +kernel, by decide +kernel⟩, List.mem_of_getElem? (i := 362) (by decide +kernel), List.mem_of_getElem? (i := 445) (by decide +kernel), List.mem_of_getElem? (i := 446) (by decide +kernel)⟩
theorem lw_p51 : lw_okq (⟨"WordMachineModel", "fail", "(I)V"⟩, 12) := ⟨⟨by decide +kernel, by decide +kernel⟩, List.mem_of_getElem? (i := 362) (by decide +kernel), List.mem_of_getElem? (i := 450) (by decide +kernel), List.mem_of_getElem? (i := 451) (by decide +kernel)⟩
theorem lw_p52 : lw_okq (⟨"WordMachineModel", "go", "(I)V"⟩, 12) := ⟨⟨by decide +kernel, by decide +kernel⟩, List.mem_of_getElem? (i := 362) (by decide +kernel), List.mem_of_getElem? (i := 454) (by decide +kernel), List.mem_of_getElem? (i := 455) (by decide +kernel)⟩
theorem lw_p53 : lw_okq (⟨"WordMachineModel", "effective", "(J)I"⟩, 12) := ⟨⟨by decide +kernel, by decide +kernel⟩, List.mem_of_getElem? (i := 362) (by decide +kernel), List.mem_of_getElem? (i := 458) (by decide +kernel), List.mem_of_getElem? (i := 459) (by decide +kernel)⟩
theorem lw_p54 : lw_okq (⟨"WordMachineModel", "count", "()V"⟩, 12) := ⟨⟨by decide +kernel, by decide +kernel⟩, List.mem_of_getElem? (i := 362) (by decide +kernel), List.mem_of_getElem? (i := 470) (by decide +kernel), List.mem_of_getElem? (i := 471) (by decide +kernel)⟩
theorem lw_p55 : lw_okq (⟨"WordMachineModel", "obey", "(III)V"⟩, 12) := ⟨⟨by decide +kernel, by decide +kernel⟩, List.mem_of_getElem? (i := 362) (by decide +kernel), List.mem_of_getElem? (i := 475) (by decide +kernel), List.mem_of_getElem? (i := 476) (by decide +kernel)⟩
theorem lw_p56 : lw_okq (⟨"WordMachineModel", "compare", "(III)V"⟩, 12) := ⟨⟨by decide +kernel, by decide +kernel⟩, List.mem_of_getElem? (i := 362) (by decide +kernel), List.mem_of_getElem? (i := 479) (by decide +kernel), List.mem_of_getElem? (i := 480) (by decide +kernel)⟩
theorem lw_p57 : lw_okq (⟨"WordMachineModel", "skipIf", "(Z)V"⟩, 12) := ⟨⟨by decide +kernel, by decide +kernel⟩, List.mem_of_getElem? (i := 362) (by decide +kernel), List.mem_of_getElem? (i := 489) (by decide +kernel), List.mem_of_getElem? (i := 490) (by decide +kernel)⟩
theorem lw_p58 : lw_okq (⟨"WordMachineModel", "over", "(Z)V"⟩, 12) := ⟨⟨by decide +kernel, by decide +kernel⟩, List.mem_of_getElem? (i := 362) (by decide +kernel), List.mem_of_getElem? (i := 495) (by decide +kernel), List.mem_of_getElem? (i := 496) (by decide +kernel)⟩
theorem lw_p59 : lw_okq (⟨"WordMachineModel", "setAc", "(IJ)V"⟩, 12) := ⟨⟨by decide +kernel, by decide +kernel⟩, List.mem_of_getElem? (i := 362) (by decide +kernel), List.mem_of_getElem? (i := 499) (by decide +kernel), List.mem_of_getElem? (i := 500) (by decide +kernel)⟩
theorem lw_p60 : lw_okq (⟨"WordMachineModel", "goIf", "(ZI)V"⟩, 12) := ⟨⟨by decide +kernel, by decide +kernel⟩, List.mem_of_getElem? (i := 362) (by decide +kernel), List.mem_of_getElem? (i := 503) (by decide +kernel), List.mem_of_getElem? (i := 504) (by decide +kernel)⟩
theorem lw_p61 : lw_okq (⟨"WordMachineModel", "set", "(IJ)V"⟩, 12) := ⟨⟨by decide +kernel, by decide +kernel⟩, List.mem_of_getElem? (i := 362) (by decide +kernel), List.mem_of_getElem? (i := 507) (by decide +kernel), List.mem_of_getElem? (i := 508) (by decide +kernel)⟩
theorem lw_p62 : lw_okq (⟨"WordMachineModel", "logic", "(III)V"⟩, 12) := ⟨⟨by decide +kernel, by decide +kernel⟩, List.mem_of_getElem? (i := 362) (by decide +kernel), List.mem_of_getElem? (i := 511) (by decide +kernel), List.mem_of_getElem? (i := 512) (by decide +kernel)⟩
theorem lw_p63 : lw_okq (⟨"WordMachineModel", "source", "(II)J"⟩, 12) := ⟨⟨by decide +kernel, by decide +kernel⟩, List.mem_of_getElem? (i := 362) (by decide +kernel), List.mem_of_getElem? (i := 515) (by decide +kernel), List.mem_of_getElem? (i := 516) (by decide +kernel)⟩
def lw_privs_4 : List (MethodName × Nat) := [(⟨"WordMachineModel", "makeStep", "()V"⟩, 12), (⟨"WordMachineModel", "get", "(I)J"⟩, 12), (⟨"WordMachineModel", "where", "(I)I"⟩, 12), (⟨"WordMachineModel", "fail", "(I)V"⟩, 12), (⟨"WordMachineModel", "go", "(I)V"⟩, 12), (⟨"WordMachineModel", "effective", "(J)I"⟩, 12), (⟨"WordMachineModel", "count", "()V"⟩, 12), (⟨"WordMachineModel", "obey", "(III)V"⟩, 12), (⟨"WordMachineModel", "compare", "(III)V"⟩, 12), (⟨"WordMachineModel", "skipIf", "(Z)V"⟩, 12), (⟨"WordMachineModel", "over", "(Z)V"⟩, 12), (⟨"WordMachineModel", "setAc", "(IJ)V"⟩, 12), (⟨"WordMachineModel", "goIf", "(ZI)V"⟩, 12), (⟨"WordMachineModel", "set", "(IJ)V"⟩, 12), (⟨"WordMachineModel", "logic", "(III)V"⟩, 12), (⟨"WordMachineModel", "source", "(II)J"⟩, 12)]
theorem lw_r4 : ∀ q ∈ lw_privs_4, lw_okq q := List.forall_mem_cons.mpr ⟨lw_p48, List.forall_mem_cons.mpr ⟨lw_p49, List.forall_mem_cons.mpr ⟨lw_p50, List.forall_mem_cons.mpr ⟨lw_p51, List.forall_mem_cons.mpr ⟨lw_p52, List.forall_mem_cons.mpr ⟨lw_p53, List.forall_mem_cons.mpr ⟨lw_p54, List.forall_mem_cons.mpr ⟨lw_p55, List.forall_mem_cons.mpr ⟨lw_p56, List.forall_mem_cons.mpr ⟨lw_p57, List.forall_mem_cons.mpr ⟨lw_p58, List.forall_mem_cons.mpr ⟨lw_p59, List.forall_mem_cons.mpr ⟨lw_p60, List.forall_mem_cons.mpr ⟨lw_p61, List.forall_mem_cons.mpr ⟨lw_p62, List.forall_mem_cons.mpr ⟨lw_p63, fun _ h => absurd h List.not_mem_nil⟩⟩⟩⟩⟩⟩⟩⟩⟩⟩⟩⟩⟩⟩⟩⟩
theorem lw_p64 : lw_okq (⟨"WordMachineModel", "keep", "(IIIJ)V"⟩, 12) := ⟨⟨by decide +kernel, by decide +kernel⟩, List.mem_of_getElem? (i := 362) (by decide +kernel), List.mem_of_getElem? (i := 519) (by decide +kernel), List.mem_of_getElem? (i := 520) (by decide +kernel)⟩
theorem lw_p65 : lw_okq (⟨"WordMachineModel", "halves", "(III)V"⟩, 12) := ⟨⟨by decide +kernel, by decide +kernel⟩, List.mem_of_getElem? (i := 362) (by decide +kernel), List.mem_of_getElem? (i := 523) (by decide +kernel), List.mem_of_getElem? (i := 524) (by decide +kernel)⟩
theorem lw_p66 : lw_okq (⟨"WordMachineModel", "place", "(IIIJ)V"⟩, 12) := ⟨⟨by decide +kernel, by decide +kernel⟩, List.mem_of_getElem? (i := 362) (by decide +kernel), List.mem_of_getElem? (i := 534) (by decide +kernel), List.mem_of_getElem? (i := 535) (by decide +kernel)⟩
theorem lw_p67 : lw_okq (⟨"WordMachineModel", "test", "(III)V"⟩, 12) := ⟨⟨by decide +kernel, by decide +kernel⟩, List.mem_of_getElem? (i := 362) (by decide +kernel), List.mem_of_getElem? (i := 538) (by decide +kernel), List.mem_of_getElem? (i := 539) (by decide +kernel)⟩
theorem lw_p68 : lw_okq (⟨"WordMachineModel", "bytes", "(III)V"⟩, 12) := ⟨⟨by decide +kernel, by decide +kernel⟩, List.mem_of_getElem? (i := 362) (by decide +kernel), List.mem_of_getElem? (i := 542) (by decide +kernel), List.mem_of_getElem? (i := 543) (by decide +kernel)⟩
theorem lw_p69 : lw_okq (⟨"WordMachineModel", "move", "(III)V"⟩, 12) := ⟨⟨by decide +kernel, by decide +kernel⟩, List.mem_of_getElem? (i := 362) (by decide +kernel), List.mem_of_getElem? (i := 549) (by decide +kernel), List.mem_of_getElem? (i := 550) (by decide +kernel)⟩
theorem lw_p70 : lw_okq (⟨"WordMachineModel", "sum", "(III)V"⟩, 12) := ⟨⟨by decide +kernel, by decide +kernel⟩, List.mem_of_getElem? (i := 362) (by decide +kernel), List.mem_of_getElem? (i := 554) (by decide +kernel), List.mem_of_getElem? (i := 555) (by decide +kernel)⟩
theorem lw_p71 : lw_okq (⟨"WordMachineModel", "multiply", "(IIIJJ)V"⟩, 12) := ⟨⟨by decide +kernel, by decide +kernel⟩, List.mem_of_getElem? (i := 362) (by decide +kernel), List.mem_of_getElem? (i := 558) (by decide +kernel), List.mem_of_getElem? (i := 559) (by decide +kernel)⟩
theorem lw_p72 : lw_okq (⟨"WordMachineModel", "flow", "(III)V"⟩, 12) := ⟨⟨by decide +kernel, by decide +kernel⟩, List.mem_of_getElem? (i := 362) (by decide +kernel), List.mem_of_getElem? (i := 563) (by decide +kernel), List.mem_of_getElem? (i := 564) (by decide +kernel)⟩
theorem lw_p73 : lw_okq (⟨"WordMachineModel", "shift", "(III)V"⟩, 12) := ⟨⟨by decide +kernel, by decide +kernel⟩, List.mem_of_getElem? (i := 362) (by decide +kernel), List.mem_of_getElem? (i := 567) (by decide +kernel), List.mem_of_getElem? (i := 568) (by decide +kernel)⟩
theorem lw_p74 : lw_okq (⟨"WordMachineModel", "block", "(III)V"⟩, 12) := ⟨⟨by decide +kernel, by decide +kernel⟩, List.mem_of_getElem? (i := 362) (by decide +kernel), List.mem_of_getElem? (i := 571) (by decide +kernel), List.mem_of_getElem? (i := 572) (by decide +kernel)⟩
theorem lw_p75 : lw_okq (⟨"WordMachineModel", "jump", "(II)V"⟩, 12) := ⟨⟨by decide +kernel, by decide +kernel⟩, List.mem_of_getElem? (i := 362) (by decide +kernel), List.mem_of_getElem? (i := 575) (by decide +kernel), List.mem_of_getElem? (i := 576) (by decide +kernel)⟩
theorem lw_p76 : lw_okq (⟨"WordMachineModel", "push", "(III)V"⟩, 12) := ⟨⟨by decide +kernel, by decide +kernel⟩, List.mem_of_getElem? (i := 362) (by decide +kernel), List.mem_of_getElem? (i := 579) (by decide +kernel), List.mem_of_getElem? (i := 580) (by decide +kernel)⟩
theorem lw_p77 : lw_okq (⟨"WordMachineModel", "flags", "()J"⟩, 12) := ⟨⟨by decide +kernel, by decide +kernel⟩, List.mem_of_getElem? (i := 362) (by decide +kernel), List.mem_of_getElem? (i := 583) (by decide +kernel), List.mem_of_getElem? (i := 584) (by decide +kernel)⟩
theorem lw_p78 : lw_okq (⟨"WordMachineModel", "pop", "(III)V"⟩, 12) := ⟨⟨by decide +kernel, by decide +kernel⟩, List.mem_of_getElem? (i := 362) (by decide +kernel), List.mem_of_getElem? (i := 587) (by decide +kernel), List.mem_of_getElem? (i := 588) (by decide +kernel)⟩
def lw_privs_5 : List (MethodName × Nat) := [(⟨"WordMachineModel", "keep", "(IIIJ)V"⟩, 12), (⟨"WordMachineModel", "halves", "(III)V"⟩, 12), (⟨"WordMachineModel", "place", "(IIIJ)V"⟩, 12), (⟨"WordMachineModel", "test", "(III)V"⟩, 12), (⟨"WordMachineModel", "bytes", "(III)V"⟩, 12), (⟨"WordMachineModel", "move", "(III)V"⟩, 12), (⟨"WordMachineModel", "sum", "(III)V"⟩, 12), (⟨"WordMachineModel", "multiply", "(IIIJJ)V"⟩, 12), (⟨"WordMachineModel", "flow", "(III)V"⟩, 12), (⟨"WordMachineModel", "shift", "(III)V"⟩, 12), (⟨"WordMachineModel", "block", "(III)V"⟩, 12), (⟨"WordMachineModel", "jump", "(II)V"⟩, 12), (⟨"WordMachineModel", "push", "(III)V"⟩, 12), (⟨"WordMachineModel", "flags", "()J"⟩, 12), (⟨"WordMachineModel", "pop", "(III)V"⟩, 12)]
theorem lw_r5 : ∀ q ∈ lw_privs_5, lw_okq q := List.forall_mem_cons.mpr ⟨lw_p64, List.forall_mem_cons.mpr ⟨lw_p65, List.forall_mem_cons.mpr ⟨lw_p66, List.forall_mem_cons.mpr ⟨lw_p67, List.forall_mem_cons.mpr ⟨lw_p68, List.forall_mem_cons.mpr ⟨lw_p69, List.forall_mem_cons.mpr ⟨lw_p70, List.forall_mem_cons.mpr ⟨lw_p71, List.forall_mem_cons.mpr ⟨lw_p72, List.forall_mem_cons.mpr ⟨lw_p73, List.forall_mem_cons.mpr ⟨lw_p74, List.forall_mem_cons.mpr ⟨lw_p75, List.forall_mem_cons.mpr ⟨lw_p76, List.forall_mem_cons.mpr ⟨lw_p77, List.forall_mem_cons.mpr ⟨lw_p78, fun _ h => absurd h List.not_mem_nil⟩⟩⟩⟩⟩⟩⟩⟩⟩⟩⟩⟩⟩⟩⟩
def lw_privs : List (MethodName × Nat) := lw_privs_1 ++ (lw_privs_2 ++ (lw_privs_3 ++ (lw_privs_4 ++ (lw_privs_5))))
def lw_tbl : List Cond := k2_sels lw_privs ++ tables_1
theorem lw_privs_ok : ∀ q ∈ lw_privs, lw_okq q := by
  show ∀ q ∈ lw_privs_1 ++ (lw_privs_2 ++ (lw_privs_3 ++ (lw_privs_4 ++ (lw_privs_5)))), lw_okq q
  exact List.forall_mem_append.mpr ⟨lw_r1, List.forall_mem_append.mpr ⟨lw_r2, List.forall_mem_append.mpr ⟨lw_r3, List.forall_mem_append.mpr ⟨lw_r4, lw_r5⟩⟩⟩⟩

theorem goodIn_sub {big ws : List Cond} (hm : ∀ w ∈ ws, w ∈ big) (h : ws.all goodWord = true) : GoodIn big ws := fun w hw => ⟨hm w hw, good_of_word (List.all_eq_true.mp h w hw)⟩
def RX : String := "WordMachine"
def RM : String := "WordMachineModel"
def RJ : String := "java/lang/Math"
def RL : String := "WordMachineLaw"
abbrev cX_init : ByteArray := prog_1_method_1_code
def yX_init : MethodName := ⟨RX, "<init>", "()V"⟩
abbrev cX_deposit : ByteArray := prog_1_method_2_code
def yX_deposit : MethodName := ⟨RX, "deposit", "(IJ)Z"⟩
abbrev cX_examine : ByteArray := prog_1_method_3_code
def yX_examine : MethodName := ⟨RX, "examine", "(I)J"⟩
abbrev cX_number : ByteArray := prog_1_method_4_code
def yX_number : MethodName := ⟨RX, "number", "(I)J"⟩
abbrev cX_segment : ByteArray := prog_1_method_5_code
def yX_segment : MethodName := ⟨RX, "segment", "(III)Z"⟩
abbrev cX_start : ByteArray := prog_1_method_6_code
def yX_start : MethodName := ⟨RX, "start", "(IZ)V"⟩
abbrev cX_run : ByteArray := prog_1_method_7_code
def yX_run : MethodName := ⟨RX, "run", "(I)I"⟩
abbrev cX_look : ByteArray := prog_1_method_8_code
def yX_look : MethodName := ⟨RX, "look", "(I)I"⟩
abbrev cX_step : ByteArray := prog_1_method_9_code
def yX_step : MethodName := ⟨RX, "step", "()V"⟩
abbrev cX_enterTrap : ByteArray := prog_1_method_10_code
def yX_enterTrap : MethodName := ⟨RX, "enterTrap", "(I)V"⟩
abbrev cX_raise : ByteArray := prog_1_method_11_code
def yX_raise : MethodName := ⟨RX, "raise", "(I)V"⟩
abbrev cX_flags : ByteArray := prog_1_method_12_code
def yX_flags : MethodName := ⟨RX, "flags", "()I"⟩
abbrev cX_pcWord : ByteArray := prog_1_method_13_code
def yX_pcWord : MethodName := ⟨RX, "pcWord", "()J"⟩
abbrev cX_carryOut : ByteArray := prog_1_method_14_code
def yX_carryOut : MethodName := ⟨RX, "carryOut", "(III)V"⟩
abbrev cX_isPlace : ByteArray := prog_1_method_15_code
def yX_isPlace : MethodName := ⟨RX, "isPlace", "(I)Z"⟩
abbrev cX_isExtent : ByteArray := prog_1_method_16_code
def yX_isExtent : MethodName := ⟨RX, "isExtent", "(I)Z"⟩
abbrev cX_placeOf : ByteArray := prog_1_method_17_code
def yX_placeOf : MethodName := ⟨RX, "placeOf", "(I)I"⟩
abbrev cX_read : ByteArray := prog_1_method_18_code
def yX_read : MethodName := ⟨RX, "read", "(I)J"⟩
abbrev cX_write : ByteArray := prog_1_method_19_code
def yX_write : MethodName := ⟨RX, "write", "(IJ)V"⟩
abbrev cX_setAccumulator : ByteArray := prog_1_method_20_code
def yX_setAccumulator : MethodName := ⟨RX, "setAccumulator", "(IJ)V"⟩
abbrev cX_setAccumulatorButZero : ByteArray := prog_1_method_21_code
def yX_setAccumulatorButZero : MethodName := ⟨RX, "setAccumulatorButZero", "(IJ)V"⟩
abbrev cX_setOverflow : ByteArray := prog_1_method_22_code
def yX_setOverflow : MethodName := ⟨RX, "setOverflow", "()V"⟩
abbrev cX_effective : ByteArray := prog_1_method_23_code
def yX_effective : MethodName := ⟨RX, "effective", "(J)I"⟩
abbrev cX_take : ByteArray := prog_1_method_24_code
def yX_take : MethodName := ⟨RX, "take", "(I)J"⟩
abbrev cX_indexed : ByteArray := prog_1_method_25_code
def yX_indexed : MethodName := ⟨RX, "indexed", "(J)I"⟩
abbrev cX_isIndirect : ByteArray := prog_1_method_26_code
def yX_isIndirect : MethodName := ⟨RX, "isIndirect", "(J)Z"⟩
abbrev cX_operation : ByteArray := prog_1_method_27_code
def yX_operation : MethodName := ⟨RX, "operation", "(J)I"⟩
abbrev cX_accumulator : ByteArray := prog_1_method_28_code
def yX_accumulator : MethodName := ⟨RX, "accumulator", "(J)I"⟩
abbrev cX_wrapped : ByteArray := prog_1_method_29_code
def yX_wrapped : MethodName := ⟨RX, "wrapped", "(I)I"⟩
abbrev cX_skipIf : ByteArray := prog_1_method_30_code
def yX_skipIf : MethodName := ⟨RX, "skipIf", "(Z)V"⟩
abbrev cX_jumpIf : ByteArray := prog_1_method_31_code
def yX_jumpIf : MethodName := ⟨RX, "jumpIf", "(ZI)V"⟩
abbrev cX_left : ByteArray := prog_1_method_32_code
def yX_left : MethodName := ⟨RX, "left", "(J)I"⟩
abbrev cX_right : ByteArray := prog_1_method_33_code
def yX_right : MethodName := ⟨RX, "right", "(J)I"⟩
abbrev cX_joined : ByteArray := prog_1_method_34_code
def yX_joined : MethodName := ⟨RX, "joined", "(II)J"⟩
abbrev cX_swapped : ByteArray := prog_1_method_35_code
def yX_swapped : MethodName := ⟨RX, "swapped", "(J)J"⟩
abbrev cX_signed : ByteArray := prog_1_method_36_code
def yX_signed : MethodName := ⟨RX, "signed", "(J)J"⟩
abbrev cX_fitted : ByteArray := prog_1_method_37_code
def yX_fitted : MethodName := ⟨RX, "fitted", "(J)J"⟩
abbrev cX_source : ByteArray := prog_1_method_38_code
def yX_source : MethodName := ⟨RX, "source", "(II)J"⟩
abbrev cX_movedSource : ByteArray := prog_1_method_39_code
def yX_movedSource : MethodName := ⟨RX, "movedSource", "(III)J"⟩
abbrev cX_putMoved : ByteArray := prog_1_method_40_code
def yX_putMoved : MethodName := ⟨RX, "putMoved", "(IIIJ)V"⟩
abbrev cX_putResult : ByteArray := prog_1_method_41_code
def yX_putResult : MethodName := ⟨RX, "putResult", "(IIIJ)V"⟩
abbrev cX_move : ByteArray := prog_1_method_42_code
def yX_move : MethodName := ⟨RX, "move", "(III)V"⟩
abbrev cX_changedToMove : ByteArray := prog_1_method_43_code
def yX_changedToMove : MethodName := ⟨RX, "changedToMove", "(IJ)J"⟩
abbrev cX_sum : ByteArray := prog_1_method_44_code
def yX_sum : MethodName := ⟨RX, "sum", "(III)V"⟩
abbrev cX_multiply : ByteArray := prog_1_method_45_code
def yX_multiply : MethodName := ⟨RX, "multiply", "(III)V"⟩
abbrev cX_productFits : ByteArray := prog_1_method_46_code
def yX_productFits : MethodName := ⟨RX, "productFits", "(JJ)Z"⟩
abbrev cX_divide : ByteArray := prog_1_method_47_code
def yX_divide : MethodName := ⟨RX, "divide", "(III)V"⟩
abbrev cX_logic : ByteArray := prog_1_method_48_code
def yX_logic : MethodName := ⟨RX, "logic", "(III)V"⟩
abbrev cX_halves : ByteArray := prog_1_method_49_code
def yX_halves : MethodName := ⟨RX, "halves", "(III)V"⟩
abbrev cX_otherHalf : ByteArray := prog_1_method_50_code
def yX_otherHalf : MethodName := ⟨RX, "otherHalf", "(III)I"⟩
abbrev cX_test : ByteArray := prog_1_method_51_code
def yX_test : MethodName := ⟨RX, "test", "(III)V"⟩
abbrev cX_testSkips : ByteArray := prog_1_method_52_code
def yX_testSkips : MethodName := ⟨RX, "testSkips", "(IJ)Z"⟩
abbrev cX_maskedChange : ByteArray := prog_1_method_53_code
def yX_maskedChange : MethodName := ⟨RX, "maskedChange", "(IJJ)J"⟩
abbrev cX_holds : ByteArray := prog_1_method_54_code
def yX_holds : MethodName := ⟨RX, "holds", "(IJ)Z"⟩
abbrev cX_compare : ByteArray := prog_1_method_55_code
def yX_compare : MethodName := ⟨RX, "compare", "(III)V"⟩
abbrev cX_skipOnWord : ByteArray := prog_1_method_56_code
def yX_skipOnWord : MethodName := ⟨RX, "skipOnWord", "(IIJ)V"⟩
abbrev cX_countAndJump : ByteArray := prog_1_method_57_code
def yX_countAndJump : MethodName := ⟨RX, "countAndJump", "(IIII)V"⟩
abbrev cX_countAndSkip : ByteArray := prog_1_method_58_code
def yX_countAndSkip : MethodName := ⟨RX, "countAndSkip", "(IIII)V"⟩
abbrev cX_shift : ByteArray := prog_1_method_59_code
def yX_shift : MethodName := ⟨RX, "shift", "(III)V"⟩
abbrev cX_shiftedAsNumber : ByteArray := prog_1_method_60_code
def yX_shiftedAsNumber : MethodName := ⟨RX, "shiftedAsNumber", "(JI)J"⟩
abbrev cX_rotated : ByteArray := prog_1_method_61_code
def yX_rotated : MethodName := ⟨RX, "rotated", "(JI)J"⟩
abbrev cX_shiftedAsBits : ByteArray := prog_1_method_62_code
def yX_shiftedAsBits : MethodName := ⟨RX, "shiftedAsBits", "(JI)J"⟩
abbrev cX_exchangeOrJump : ByteArray := prog_1_method_63_code
def yX_exchangeOrJump : MethodName := ⟨RX, "exchangeOrJump", "(III)V"⟩
abbrev cX_exchange : ByteArray := prog_1_method_64_code
def yX_exchange : MethodName := ⟨RX, "exchange", "(II)V"⟩
abbrev cX_block : ByteArray := prog_1_method_65_code
def yX_block : MethodName := ⟨RX, "block", "(II)V"⟩
abbrev cX_jumpByAccumulator : ByteArray := prog_1_method_66_code
def yX_jumpByAccumulator : MethodName := ⟨RX, "jumpByAccumulator", "(II)V"⟩
abbrev cX_moveHalves : ByteArray := prog_1_method_67_code
def yX_moveHalves : MethodName := ⟨RX, "moveHalves", "(II)V"⟩
abbrev cX_growStack : ByteArray := prog_1_method_68_code
def yX_growStack : MethodName := ⟨RX, "growStack", "(I)V"⟩
abbrev cX_shrinkStack : ByteArray := prog_1_method_69_code
def yX_shrinkStack : MethodName := ⟨RX, "shrinkStack", "(I)V"⟩
abbrev cX_stack : ByteArray := prog_1_method_70_code
def yX_stack : MethodName := ⟨RX, "stack", "(III)V"⟩
abbrev cX_bytes : ByteArray := prog_1_method_71_code
def yX_bytes : MethodName := ⟨RX, "bytes", "(III)V"⟩
abbrev cX_position : ByteArray := prog_1_method_72_code
def yX_position : MethodName := ⟨RX, "position", "(J)I"⟩
abbrev cX_size : ByteArray := prog_1_method_73_code
def yX_size : MethodName := ⟨RX, "size", "(J)I"⟩
abbrev cX_byteMask : ByteArray := prog_1_method_74_code
def yX_byteMask : MethodName := ⟨RX, "byteMask", "(J)J"⟩
abbrev cX_advancePointer : ByteArray := prog_1_method_75_code
def yX_advancePointer : MethodName := ⟨RX, "advancePointer", "(I)V"⟩
abbrev cX_loadByte : ByteArray := prog_1_method_76_code
def yX_loadByte : MethodName := ⟨RX, "loadByte", "(IJI)V"⟩
abbrev cX_depositByte : ByteArray := prog_1_method_77_code
def yX_depositByte : MethodName := ⟨RX, "depositByte", "(IJI)V"⟩
abbrev cM_init : ByteArray := prog_3_method_1_code
def yM_init : MethodName := ⟨RM, "<init>", "()V"⟩
abbrev cM_num : ByteArray := prog_3_method_2_code
def yM_num : MethodName := ⟨RM, "num", "(J)J"⟩
abbrev cM_left : ByteArray := prog_3_method_3_code
def yM_left : MethodName := ⟨RM, "left", "(J)I"⟩
abbrev cM_right : ByteArray := prog_3_method_4_code
def yM_right : MethodName := ⟨RM, "right", "(J)I"⟩
abbrev cM_joined : ByteArray := prog_3_method_5_code
def yM_joined : MethodName := ⟨RM, "joined", "(II)J"⟩
abbrev cM_bit : ByteArray := prog_3_method_6_code
def yM_bit : MethodName := ⟨RM, "bit", "(JI)I"⟩
abbrev cM_fail : ByteArray := prog_3_method_7_code
def yM_fail : MethodName := ⟨RM, "fail", "(I)V"⟩
abbrev cM_where : ByteArray := prog_3_method_8_code
def yM_where : MethodName := ⟨RM, "where", "(I)I"⟩
abbrev cM_get : ByteArray := prog_3_method_9_code
def yM_get : MethodName := ⟨RM, "get", "(I)J"⟩
abbrev cM_set : ByteArray := prog_3_method_10_code
def yM_set : MethodName := ⟨RM, "set", "(IJ)V"⟩
abbrev cM_setAc : ByteArray := prog_3_method_11_code
def yM_setAc : MethodName := ⟨RM, "setAc", "(IJ)V"⟩
abbrev cM_over : ByteArray := prog_3_method_12_code
def yM_over : MethodName := ⟨RM, "over", "(Z)V"⟩
abbrev cM_go : ByteArray := prog_3_method_13_code
def yM_go : MethodName := ⟨RM, "go", "(I)V"⟩
abbrev cM_skipIf : ByteArray := prog_3_method_14_code
def yM_skipIf : MethodName := ⟨RM, "skipIf", "(Z)V"⟩
abbrev cM_goIf : ByteArray := prog_3_method_15_code
def yM_goIf : MethodName := ⟨RM, "goIf", "(ZI)V"⟩
abbrev cM_count : ByteArray := prog_3_method_16_code
def yM_count : MethodName := ⟨RM, "count", "()V"⟩
abbrev cM_effective : ByteArray := prog_3_method_17_code
def yM_effective : MethodName := ⟨RM, "effective", "(J)I"⟩
abbrev cM_flags : ByteArray := prog_3_method_18_code
def yM_flags : MethodName := ⟨RM, "flags", "()J"⟩
abbrev cM_holds : ByteArray := prog_3_method_19_code
def yM_holds : MethodName := ⟨RM, "holds", "(IJ)Z"⟩
abbrev cM_holds0 : ByteArray := prog_3_method_20_code
def yM_holds0 : MethodName := ⟨RM, "holds0", "(IJ)Z"⟩
abbrev cM_makeStep : ByteArray := prog_3_method_21_code
def yM_makeStep : MethodName := ⟨RM, "makeStep", "()V"⟩
abbrev cM_obey : ByteArray := prog_3_method_22_code
def yM_obey : MethodName := ⟨RM, "obey", "(III)V"⟩
abbrev cM_source : ByteArray := prog_3_method_23_code
def yM_source : MethodName := ⟨RM, "source", "(II)J"⟩
abbrev cM_place : ByteArray := prog_3_method_24_code
def yM_place : MethodName := ⟨RM, "place", "(IIIJ)V"⟩
abbrev cM_keep : ByteArray := prog_3_method_25_code
def yM_keep : MethodName := ⟨RM, "keep", "(IIIJ)V"⟩
abbrev cM_move : ByteArray := prog_3_method_26_code
def yM_move : MethodName := ⟨RM, "move", "(III)V"⟩
abbrev cM_sum : ByteArray := prog_3_method_27_code
def yM_sum : MethodName := ⟨RM, "sum", "(III)V"⟩
abbrev cM_multiply : ByteArray := prog_3_method_28_code
def yM_multiply : MethodName := ⟨RM, "multiply", "(IIIJJ)V"⟩
abbrev cM_logic : ByteArray := prog_3_method_29_code
def yM_logic : MethodName := ⟨RM, "logic", "(III)V"⟩
abbrev cM_halves : ByteArray := prog_3_method_30_code
def yM_halves : MethodName := ⟨RM, "halves", "(III)V"⟩
abbrev cM_compare : ByteArray := prog_3_method_31_code
def yM_compare : MethodName := ⟨RM, "compare", "(III)V"⟩
abbrev cM_test : ByteArray := prog_3_method_32_code
def yM_test : MethodName := ⟨RM, "test", "(III)V"⟩
abbrev cM_bytes : ByteArray := prog_3_method_33_code
def yM_bytes : MethodName := ⟨RM, "bytes", "(III)V"⟩
abbrev cM_flow : ByteArray := prog_3_method_34_code
def yM_flow : MethodName := ⟨RM, "flow", "(III)V"⟩
abbrev cM_jump : ByteArray := prog_3_method_35_code
def yM_jump : MethodName := ⟨RM, "jump", "(II)V"⟩
abbrev cM_shift : ByteArray := prog_3_method_36_code
def yM_shift : MethodName := ⟨RM, "shift", "(III)V"⟩
abbrev cM_block : ByteArray := prog_3_method_37_code
def yM_block : MethodName := ⟨RM, "block", "(III)V"⟩
abbrev cM_push : ByteArray := prog_3_method_38_code
def yM_push : MethodName := ⟨RM, "push", "(III)V"⟩
abbrev cM_pop : ByteArray := prog_3_method_39_code
def yM_pop : MethodName := ⟨RM, "pop", "(III)V"⟩
abbrev cM_deposit : ByteArray := prog_3_method_40_code
def yM_deposit : MethodName := ⟨RM, "deposit", "(IJ)Z"⟩
abbrev cM_examine : ByteArray := prog_3_method_41_code
def yM_examine : MethodName := ⟨RM, "examine", "(I)J"⟩
abbrev cM_number : ByteArray := prog_3_method_42_code
def yM_number : MethodName := ⟨RM, "number", "(I)J"⟩
abbrev cM_segment : ByteArray := prog_3_method_43_code
def yM_segment : MethodName := ⟨RM, "segment", "(III)Z"⟩
abbrev cM_start : ByteArray := prog_3_method_44_code
def yM_start : MethodName := ⟨RM, "start", "(IZ)V"⟩
abbrev cM_run : ByteArray := prog_3_method_45_code
def yM_run : MethodName := ⟨RM, "run", "(I)I"⟩
abbrev cM_look : ByteArray := prog_3_method_46_code
def yM_look : MethodName := ⟨RM, "look", "(I)I"⟩
abbrev cJ_abs : ByteArray := prog_4_method_61_code
def yJ_abs : MethodName := ⟨RJ, "abs", "(J)J"⟩
abbrev cJ_floorMod : ByteArray := prog_4_method_50_code
def yJ_floorMod : MethodName := ⟨RJ, "floorMod", "(II)I"⟩
abbrev cJ_max : ByteArray := prog_4_method_65_code
def yJ_max : MethodName := ⟨RJ, "max", "(II)I"⟩
abbrev cJ_min : ByteArray := prog_4_method_69_code
def yJ_min : MethodName := ⟨RJ, "min", "(II)I"⟩
def TX : u_T := fun k => match k with
  | 0 => (RX, "words", "[J", true)
  | 1 => (RX, "lowBase", "I", false)
  | 2 => (RX, "lowBound", "I", false)
  | 3 => (RX, "highBase", "I", false)
  | 4 => (RX, "highBound", "I", false)
  | 5 => (RX, "pc", "I", false)
  | 6 => (RX, "user", "Z", false)
  | 7 => (RX, "overflow", "Z", false)
  | 8 => (RX, "stopped", "Z", false)
  | 9 => (RX, "steps", "I", false)
  | 10 => (RX, "traps", "I", false)
  | 11 => (RX, "latestTrap", "I", false)
  | 12 => (RX, "trap", "I", false)
  | _ => (RX, "taken", "I", false)
def tyX : Nat → FieldType := fun k => match k with
  | 0 => .array .long
  | 1 => .int
  | 2 => .int
  | 3 => .int
  | 4 => .int
  | 5 => .int
  | 6 => .boolean
  | 7 => .boolean
  | 8 => .boolean
  | 9 => .int
  | 10 => .int
  | 11 => .int
  | 12 => .int
  | _ => .int
theorem nmX : ∀ a, a < 14 → ∀ b, b < 14 → a ≠ b → (TX a).2.1 ≠ (TX b).2.1 := by decide +kernel
theorem tyX_ok : ∀ k, k < 14 → parseFieldDescriptor (TX k).2.2.1 = some (tyX k) := by decide +kernel
def TM : u_T := fun k => match k with
  | 0 => (RM, "store", "[J", true)
  | 1 => (RM, "base", "[I", true)
  | 2 => (RM, "bound", "[I", true)
  | 3 => (RM, "user", "Z", false)
  | 4 => (RM, "overflow", "Z", false)
  | 5 => (RM, "stopped", "Z", false)
  | 6 => (RM, "pc", "I", false)
  | 7 => (RM, "steps", "I", false)
  | 8 => (RM, "traps", "I", false)
  | 9 => (RM, "latest", "I", false)
  | 10 => (RM, "wrong", "I", false)
  | _ => (RM, "taken", "I", false)
def tyM : Nat → FieldType := fun k => match k with
  | 0 => .array .long
  | 1 => .array .int
  | 2 => .array .int
  | 3 => .boolean
  | 4 => .boolean
  | 5 => .boolean
  | 6 => .int
  | 7 => .int
  | 8 => .int
  | 9 => .int
  | 10 => .int
  | _ => .int
theorem nmM : ∀ a, a < 12 → ∀ b, b < 12 → a ≠ b → (TM a).2.1 ≠ (TM b).2.1 := by decide +kernel
theorem tyM_ok : ∀ k, k < 12 → parseFieldDescriptor (TM k).2.2.1 = some (tyM k) := by decide +kernel
abbrev vwCl : List vw_C := [(RX, TX, 14), (RM, TM, 12)]
def WX : List Cond := [.initialized RX,
  .initialized RJ,
  .instanceMethod yX_init,
  .code yX_init cX_init 1 none,
  .methodLink RX 1 objectInit,
  .instanceMethod objectInit,
  .code objectInit ⟨#[0xb1]⟩ 1 none,
  .fieldLink RX 9 RX "words" "[J",
  .fieldLink RX 28 RX "lowBase" "I",
  .fieldLink RX 32 RX "lowBound" "I",
  .fieldLink RX 35 RX "highBase" "I",
  .fieldLink RX 38 RX "highBound" "I",
  .fieldLink RX 42 RX "pc" "I",
  .fieldLink RX 45 RX "user" "Z",
  .fieldLink RX 52 RX "overflow" "Z",
  .fieldLink RX 49 RX "stopped" "Z",
  .fieldLink RX 58 RX "steps" "I",
  .fieldLink RX 61 RX "traps" "I",
  .fieldLink RX 64 RX "latestTrap" "I",
  .fieldLink RX 67 RX "trap" "I",
  .fieldLink RX 70 RX "taken" "I",
  .laysFinal RX RX "words" "[J",
  .lays RX RX "lowBase" "I",
  .lays RX RX "lowBound" "I",
  .lays RX RX "highBase" "I",
  .lays RX RX "highBound" "I",
  .lays RX RX "pc" "I",
  .lays RX RX "user" "Z",
  .lays RX RX "overflow" "Z",
  .lays RX RX "stopped" "Z",
  .lays RX RX "steps" "I",
  .lays RX RX "traps" "I",
  .lays RX RX "latestTrap" "I",
  .lays RX RX "trap" "I",
  .lays RX RX "taken" "I",
  .arrayClass .long,
  .instanceMethod yX_deposit,
  .code yX_deposit cX_deposit 4 (some .boolean),
  .methodLink RX 13 yX_isPlace,
  .static yX_isPlace,
  .code yX_isPlace cX_isPlace 1 (some .boolean),
  .constantLong RX 17 68719476735,
  .instanceMethod yX_examine,
  .code yX_examine cX_examine 2 (some .long),
  .constantLong RX 19 (-1),
  .instanceMethod yX_number,
  .code yX_number cX_number 2 (some .long),
  .methodLink RX 21 yX_signed,
  .static yX_signed,
  .code yX_signed cX_signed 2 (some .long),
  .instanceMethod yX_segment,
  .code yX_segment cX_segment 4 (some .boolean),
  .methodLink RX 25 yX_isExtent,
  .static yX_isExtent,
  .code yX_isExtent cX_isExtent 1 (some .boolean),
  .instanceMethod yX_start,
  .code yX_start cX_start 3 none,
  .constant RX 41 262143,
  .instanceMethod yX_run,
  .code yX_run cX_run 3 (some .int),
  .methodLink RX 55 yX_step,
  .instanceMethod yX_step,
  .code yX_step cX_step 6 none,
  .methodLink RX 73 yX_read,
  .instanceMethod yX_read,
  .code yX_read cX_read 3 (some .long),
  .methodLink RX 150 yX_placeOf,
  .instanceMethod yX_placeOf,
  .code yX_placeOf cX_placeOf 3 (some .int),
  .constant RX 110 131072,
  .methodLink RX 147 yX_raise,
  .instanceMethod yX_raise,
  .code yX_raise cX_raise 2 none,
  .methodLink RX 77 yX_wrapped,
  .static yX_wrapped,
  .code yX_wrapped cX_wrapped 1 (some .int),
  .methodLink RX 81 yX_effective,
  .instanceMethod yX_effective,
  .code yX_effective cX_effective 7 (some .int),
  .methodLink RX 157 yX_indexed,
  .instanceMethod yX_indexed,
  .code yX_indexed cX_indexed 5 (some .int),
  .methodLink RX 164 yX_right,
  .static yX_right,
  .code yX_right cX_right 2 (some .int),
  .methodLink RX 160 yX_isIndirect,
  .static yX_isIndirect,
  .code yX_isIndirect cX_isIndirect 2 (some .boolean),
  .methodLink RX 88 yX_take,
  .instanceMethod yX_take,
  .code yX_take cX_take 2 (some .long),
  .methodLink RX 85 yX_operation,
  .static yX_operation,
  .code yX_operation cX_operation 2 (some .int),
  .methodLink RX 91 yX_accumulator,
  .static yX_accumulator,
  .code yX_accumulator cX_accumulator 2 (some .int),
  .methodLink RX 94 yX_carryOut,
  .instanceMethod yX_carryOut,
  .code yX_carryOut cX_carryOut 4 none,
  .methodLink RX 111 yX_bytes,
  .instanceMethod yX_bytes,
  .code yX_bytes cX_bytes 7 none,
  .methodLink RX 301 yX_advancePointer,
  .instanceMethod yX_advancePointer,
  .code yX_advancePointer cX_advancePointer 7 none,
  .methodLink RX 314 yX_position,
  .static yX_position,
  .code yX_position cX_position 2 (some .int),
  .methodLink RX 311 yX_size,
  .static yX_size,
  .code yX_size cX_size 2 (some .int),
  .methodLink RX 288 yJ_max,
  .static yJ_max,
  .code yJ_max cJ_max 2 (some .int),
  .methodLink RX 167 yX_left,
  .static yX_left,
  .code yX_left cX_left 2 (some .int),
  .methodLink RX 106 yX_joined,
  .static yX_joined,
  .code yX_joined cX_joined 2 (some .long),
  .methodLink RX 176 yX_write,
  .instanceMethod yX_write,
  .code yX_write cX_write 5 none,
  .methodLink RX 304 yX_loadByte,
  .instanceMethod yX_loadByte,
  .code yX_loadByte cX_loadByte 7 none,
  .methodLink RX 317 yX_byteMask,
  .static yX_byteMask,
  .code yX_byteMask cX_byteMask 2 (some .long),
  .methodLink RX 264 yJ_min,
  .static yJ_min,
  .code yJ_min cJ_min 2 (some .int),
  .methodLink RX 153 yX_setAccumulator,
  .instanceMethod yX_setAccumulator,
  .code yX_setAccumulator cX_setAccumulator 4 none,
  .methodLink RX 308 yX_depositByte,
  .instanceMethod yX_depositByte,
  .code yX_depositByte cX_depositByte 9 none,
  .methodLink RX 114 yX_move,
  .instanceMethod yX_move,
  .code yX_move cX_move 7 none,
  .methodLink RX 182 yX_movedSource,
  .instanceMethod yX_movedSource,
  .code yX_movedSource cX_movedSource 4 (some .long),
  .methodLink RX 173 yX_source,
  .instanceMethod yX_source,
  .code yX_source cX_source 3 (some .long),
  .methodLink RX 186 yX_changedToMove,
  .instanceMethod yX_changedToMove,
  .code yX_changedToMove cX_changedToMove 4 (some .long),
  .methodLink RX 194 yX_swapped,
  .static yX_swapped,
  .code yX_swapped cX_swapped 2 (some .long),
  .methodLink RX 197 yX_fitted,
  .instanceMethod yX_fitted,
  .code yX_fitted cX_fitted 5 (some .long),
  .methodLink RX 170 yX_setOverflow,
  .instanceMethod yX_setOverflow,
  .code yX_setOverflow cX_setOverflow 1 none,
  .methodLink RX 200 yJ_abs,
  .static yJ_abs,
  .code yJ_abs cJ_abs 2 (some .long),
  .methodLink RX 190 yX_putMoved,
  .instanceMethod yX_putMoved,
  .code yX_putMoved cX_putMoved 6 none,
  .methodLink RX 179 yX_setAccumulatorButZero,
  .instanceMethod yX_setAccumulatorButZero,
  .code yX_setAccumulatorButZero cX_setAccumulatorButZero 4 none,
  .methodLink RX 117 yX_multiply,
  .instanceMethod yX_multiply,
  .code yX_multiply cX_multiply 9 none,
  .methodLink RX 208 yX_productFits,
  .static yX_productFits,
  .code yX_productFits cX_productFits 6 (some .boolean),
  .constantLong RX 212 262143,
  .constantLong RX 214 (-131072),
  .constantLong RX 216 131072,
  .methodLink RX 205 yX_putResult,
  .instanceMethod yX_putResult,
  .code yX_putResult cX_putResult 6 none,
  .methodLink RX 120 yX_divide,
  .instanceMethod yX_divide,
  .code yX_divide cX_divide 9 none,
  .constantLong RX 218 (-34359738368),
  .methodLink RX 123 yX_shift,
  .instanceMethod yX_shift,
  .code yX_shift cX_shift 5 none,
  .methodLink RX 254 yX_shiftedAsNumber,
  .instanceMethod yX_shiftedAsNumber,
  .code yX_shiftedAsNumber cX_shiftedAsNumber 7 (some .long),
  .constantLong RX 268 34359738368,
  .methodLink RX 261 yX_shiftedAsBits,
  .static yX_shiftedAsBits,
  .code yX_shiftedAsBits cX_shiftedAsBits 3 (some .long),
  .constantLong RX 270 (-34359738369),
  .methodLink RX 258 yX_rotated,
  .static yX_rotated,
  .code yX_rotated cX_rotated 4 (some .long),
  .methodLink RX 272 yJ_floorMod,
  .static yJ_floorMod,
  .code yJ_floorMod cJ_floorMod 3 (some .int),
  .methodLink RX 126 yX_exchangeOrJump,
  .instanceMethod yX_exchangeOrJump,
  .code yX_exchangeOrJump cX_exchangeOrJump 4 none,
  .methodLink RX 275 yX_exchange,
  .instanceMethod yX_exchange,
  .code yX_exchange cX_exchange 5 none,
  .methodLink RX 279 yX_block,
  .instanceMethod yX_block,
  .code yX_block cX_block 7 none,
  .methodLink RX 282 yX_moveHalves,
  .instanceMethod yX_moveHalves,
  .code yX_moveHalves cX_moveHalves 5 none,
  .methodLink RX 239 yX_jumpIf,
  .instanceMethod yX_jumpIf,
  .code yX_jumpIf cX_jumpIf 3 none,
  .methodLink RX 285 yX_jumpByAccumulator,
  .instanceMethod yX_jumpByAccumulator,
  .code yX_jumpByAccumulator cX_jumpByAccumulator 3 none,
  .methodLink RX 129 yX_stack,
  .instanceMethod yX_stack,
  .code yX_stack cX_stack 4 none,
  .methodLink RX 291 yX_growStack,
  .instanceMethod yX_growStack,
  .code yX_growStack cX_growStack 2 none,
  .methodLink RX 294 yX_pcWord,
  .instanceMethod yX_pcWord,
  .code yX_pcWord cX_pcWord 1 (some .long),
  .methodLink RX 102 yX_flags,
  .instanceMethod yX_flags,
  .code yX_flags cX_flags 1 (some .int),
  .methodLink RX 298 yX_shrinkStack,
  .instanceMethod yX_shrinkStack,
  .code yX_shrinkStack cX_shrinkStack 2 none,
  .methodLink RX 132 yX_sum,
  .instanceMethod yX_sum,
  .code yX_sum cX_sum 10 none,
  .methodLink RX 135 yX_compare,
  .instanceMethod yX_compare,
  .code yX_compare cX_compare 7 none,
  .methodLink RX 236 yX_holds,
  .static yX_holds,
  .code yX_holds cX_holds 3 (some .boolean),
  .methodLink RX 228 yX_skipIf,
  .instanceMethod yX_skipIf,
  .code yX_skipIf cX_skipIf 2 none,
  .methodLink RX 243 yX_skipOnWord,
  .instanceMethod yX_skipOnWord,
  .code yX_skipOnWord cX_skipOnWord 5 none,
  .methodLink RX 247 yX_countAndJump,
  .instanceMethod yX_countAndJump,
  .code yX_countAndJump cX_countAndJump 7 none,
  .methodLink RX 251 yX_countAndSkip,
  .instanceMethod yX_countAndSkip,
  .code yX_countAndSkip cX_countAndSkip 7 none,
  .methodLink RX 138 yX_logic,
  .instanceMethod yX_logic,
  .code yX_logic cX_logic 12 none,
  .methodLink RX 141 yX_halves,
  .instanceMethod yX_halves,
  .code yX_halves cX_halves 13 none,
  .methodLink RX 220 yX_otherHalf,
  .static yX_otherHalf,
  .code yX_otherHalf cX_otherHalf 3 (some .int),
  .methodLink RX 144 yX_test,
  .instanceMethod yX_test,
  .code yX_test cX_test 8 none,
  .methodLink RX 224 yX_testSkips,
  .static yX_testSkips,
  .code yX_testSkips cX_testSkips 3 (some .boolean),
  .methodLink RX 232 yX_maskedChange,
  .static yX_maskedChange,
  .code yX_maskedChange cX_maskedChange 5 (some .long),
  .methodLink RX 98 yX_enterTrap,
  .instanceMethod yX_enterTrap,
  .code yX_enterTrap cX_enterTrap 2 none,
  .instanceMethod yX_look,
  .code yX_look cX_look 2 (some .int),
  .selects RX yX_deposit yX_deposit,
  .selects RX yX_examine yX_examine,
  .selects RX yX_number yX_number,
  .selects RX yX_segment yX_segment,
  .selects RX yX_start yX_start,
  .selects RX yX_run yX_run,
  .selects RX yX_look yX_look,
  .selects RX yX_step yX_step,
  .selects RX yX_enterTrap yX_enterTrap,
  .selects RX yX_raise yX_raise,
  .selects RX yX_flags yX_flags,
  .selects RX yX_pcWord yX_pcWord,
  .selects RX yX_carryOut yX_carryOut,
  .selects RX yX_placeOf yX_placeOf,
  .selects RX yX_read yX_read,
  .selects RX yX_write yX_write,
  .selects RX yX_setAccumulator yX_setAccumulator,
  .selects RX yX_setAccumulatorButZero yX_setAccumulatorButZero,
  .selects RX yX_setOverflow yX_setOverflow,
  .selects RX yX_effective yX_effective,
  .selects RX yX_take yX_take,
  .selects RX yX_indexed yX_indexed,
  .selects RX yX_skipIf yX_skipIf,
  .selects RX yX_jumpIf yX_jumpIf,
  .selects RX yX_fitted yX_fitted,
  .selects RX yX_source yX_source,
  .selects RX yX_movedSource yX_movedSource,
  .selects RX yX_putMoved yX_putMoved,
  .selects RX yX_putResult yX_putResult,
  .selects RX yX_move yX_move,
  .selects RX yX_changedToMove yX_changedToMove,
  .selects RX yX_sum yX_sum,
  .selects RX yX_multiply yX_multiply,
  .selects RX yX_divide yX_divide,
  .selects RX yX_logic yX_logic,
  .selects RX yX_halves yX_halves,
  .selects RX yX_test yX_test,
  .selects RX yX_compare yX_compare,
  .selects RX yX_skipOnWord yX_skipOnWord,
  .selects RX yX_countAndJump yX_countAndJump,
  .selects RX yX_countAndSkip yX_countAndSkip,
  .selects RX yX_shift yX_shift,
  .selects RX yX_shiftedAsNumber yX_shiftedAsNumber,
  .selects RX yX_exchangeOrJump yX_exchangeOrJump,
  .selects RX yX_exchange yX_exchange,
  .selects RX yX_block yX_block,
  .selects RX yX_jumpByAccumulator yX_jumpByAccumulator,
  .selects RX yX_moveHalves yX_moveHalves,
  .selects RX yX_growStack yX_growStack,
  .selects RX yX_shrinkStack yX_shrinkStack,
  .selects RX yX_stack yX_stack,
  .selects RX yX_bytes yX_bytes,
  .selects RX yX_advancePointer yX_advancePointer,
  .selects RX yX_loadByte yX_loadByte,
  .selects RX yX_depositByte yX_depositByte]
theorem hiX : (.initialized RX : Cond) ∈ WX := List.mem_of_getElem? (i := 0) rfl
theorem hiJ : (.initialized RJ : Cond) ∈ WX := List.mem_of_getElem? (i := 1) rfl
theorem hnX_init : (.instanceMethod yX_init : Cond) ∈ WX := List.mem_of_getElem? (i := 2) rfl
theorem hoX_init : (.code yX_init cX_init 1 none : Cond) ∈ WX := List.mem_of_getElem? (i := 3) rfl
theorem hmX_1 : (.methodLink RX 1 objectInit : Cond) ∈ WX := List.mem_of_getElem? (i := 4) rfl
theorem hnO_init_X : (.instanceMethod objectInit : Cond) ∈ WX := List.mem_of_getElem? (i := 5) rfl
theorem hoO_init_X : (.code objectInit ⟨#[0xb1]⟩ 1 none : Cond) ∈ WX := List.mem_of_getElem? (i := 6) rfl
theorem hfX_words : (.fieldLink RX 9 RX "words" "[J" : Cond) ∈ WX := List.mem_of_getElem? (i := 7) rfl
theorem hfX_lowBase : (.fieldLink RX 28 RX "lowBase" "I" : Cond) ∈ WX := List.mem_of_getElem? (i := 8) rfl
theorem hfX_lowBound : (.fieldLink RX 32 RX "lowBound" "I" : Cond) ∈ WX := List.mem_of_getElem? (i := 9) rfl
theorem hfX_highBase : (.fieldLink RX 35 RX "highBase" "I" : Cond) ∈ WX := List.mem_of_getElem? (i := 10) rfl
theorem hfX_highBound : (.fieldLink RX 38 RX "highBound" "I" : Cond) ∈ WX := List.mem_of_getElem? (i := 11) rfl
theorem hfX_pc : (.fieldLink RX 42 RX "pc" "I" : Cond) ∈ WX := List.mem_of_getElem? (i := 12) rfl
theorem hfX_user : (.fieldLink RX 45 RX "user" "Z" : Cond) ∈ WX := List.mem_of_getElem? (i := 13) rfl
theorem hfX_overflow : (.fieldLink RX 52 RX "overflow" "Z" : Cond) ∈ WX := List.mem_of_getElem? (i := 14) rfl
theorem hfX_stopped : (.fieldLink RX 49 RX "stopped" "Z" : Cond) ∈ WX := List.mem_of_getElem? (i := 15) rfl
theorem hfX_steps : (.fieldLink RX 58 RX "steps" "I" : Cond) ∈ WX := List.mem_of_getElem? (i := 16) rfl
theorem hfX_traps : (.fieldLink RX 61 RX "traps" "I" : Cond) ∈ WX := List.mem_of_getElem? (i := 17) rfl
theorem hfX_latestTrap : (.fieldLink RX 64 RX "latestTrap" "I" : Cond) ∈ WX := List.mem_of_getElem? (i := 18) rfl
theorem hfX_trap : (.fieldLink RX 67 RX "trap" "I" : Cond) ∈ WX := List.mem_of_getElem? (i := 19) rfl
theorem hfX_taken : (.fieldLink RX 70 RX "taken" "I" : Cond) ∈ WX := List.mem_of_getElem? (i := 20) rfl
theorem hlX_words : (.laysFinal RX RX "words" "[J" : Cond) ∈ WX := List.mem_of_getElem? (i := 21) rfl
theorem hlX_lowBase : (.lays RX RX "lowBase" "I" : Cond) ∈ WX := List.mem_of_getElem? (i := 22) rfl
theorem hlX_lowBound : (.lays RX RX "lowBound" "I" : Cond) ∈ WX := List.mem_of_getElem? (i := 23) rfl
theorem hlX_highBase : (.lays RX RX "highBase" "I" : Cond) ∈ WX := List.mem_of_getElem? (i := 24) rfl
theorem hlX_highBound : (.lays RX RX "highBound" "I" : Cond) ∈ WX := List.mem_of_getElem? (i := 25) rfl
theorem hlX_pc : (.lays RX RX "pc" "I" : Cond) ∈ WX := List.mem_of_getElem? (i := 26) rfl
theorem hlX_user : (.lays RX RX "user" "Z" : Cond) ∈ WX := List.mem_of_getElem? (i := 27) rfl
theorem hlX_overflow : (.lays RX RX "overflow" "Z" : Cond) ∈ WX := List.mem_of_getElem? (i := 28) rfl
theorem hlX_stopped : (.lays RX RX "stopped" "Z" : Cond) ∈ WX := List.mem_of_getElem? (i := 29) rfl
theorem hlX_steps : (.lays RX RX "steps" "I" : Cond) ∈ WX := List.mem_of_getElem? (i := 30) rfl
theorem hlX_traps : (.lays RX RX "traps" "I" : Cond) ∈ WX := List.mem_of_getElem? (i := 31) rfl
theorem hlX_latestTrap : (.lays RX RX "latestTrap" "I" : Cond) ∈ WX := List.mem_of_getElem? (i := 32) rfl
theorem hlX_trap : (.lays RX RX "trap" "I" : Cond) ∈ WX := List.mem_of_getElem? (i := 33) rfl
theorem hlX_taken : (.lays RX RX "taken" "I" : Cond) ∈ WX := List.mem_of_getElem? (i := 34) rfl
theorem haX_long : (.arrayClass .long : Cond) ∈ WX := List.mem_of_getElem? (i := 35) rfl
theorem hnX_deposit : (.instanceMethod yX_deposit : Cond) ∈ WX := List.mem_of_getElem? (i := 36) rfl
theorem hoX_deposit : (.code yX_deposit cX_deposit 4 (some .boolean) : Cond) ∈ WX := List.mem_of_getElem? (i := 37) rfl
theorem hmX_13 : (.methodLink RX 13 yX_isPlace : Cond) ∈ WX := List.mem_of_getElem? (i := 38) rfl
theorem hsX_isPlace : (.static yX_isPlace : Cond) ∈ WX := List.mem_of_getElem? (i := 39) rfl
theorem hoX_isPlace : (.code yX_isPlace cX_isPlace 1 (some .boolean) : Cond) ∈ WX := List.mem_of_getElem? (i := 40) rfl
theorem hkX_17 : (.constantLong RX 17 68719476735 : Cond) ∈ WX := List.mem_of_getElem? (i := 41) rfl
theorem hnX_examine : (.instanceMethod yX_examine : Cond) ∈ WX := List.mem_of_getElem? (i := 42) rfl
theorem hoX_examine : (.code yX_examine cX_examine 2 (some .long) : Cond) ∈ WX := List.mem_of_getElem? (i := 43) rfl
theorem hkX_19 : (.constantLong RX 19 (-1) : Cond) ∈ WX := List.mem_of_getElem? (i := 44) rfl
theorem hnX_number : (.instanceMethod yX_number : Cond) ∈ WX := List.mem_of_getElem? (i := 45) rfl
theorem hoX_number : (.code yX_number cX_number 2 (some .long) : Cond) ∈ WX := List.mem_of_getElem? (i := 46) rfl
theorem hmX_21 : (.methodLink RX 21 yX_signed : Cond) ∈ WX := List.mem_of_getElem? (i := 47) rfl
theorem hsX_signed : (.static yX_signed : Cond) ∈ WX := List.mem_of_getElem? (i := 48) rfl
theorem hoX_signed : (.code yX_signed cX_signed 2 (some .long) : Cond) ∈ WX := List.mem_of_getElem? (i := 49) rfl
theorem hnX_segment : (.instanceMethod yX_segment : Cond) ∈ WX := List.mem_of_getElem? (i := 50) rfl
theorem hoX_segment : (.code yX_segment cX_segment 4 (some .boolean) : Cond) ∈ WX := List.mem_of_getElem? (i := 51) rfl
theorem hmX_25 : (.methodLink RX 25 yX_isExtent : Cond) ∈ WX := List.mem_of_getElem? (i := 52) rfl
theorem hsX_isExtent : (.static yX_isExtent : Cond) ∈ WX := List.mem_of_getElem? (i := 53) rfl
theorem hoX_isExtent : (.code yX_isExtent cX_isExtent 1 (some .boolean) : Cond) ∈ WX := List.mem_of_getElem? (i := 54) rfl
theorem hnX_start : (.instanceMethod yX_start : Cond) ∈ WX := List.mem_of_getElem? (i := 55) rfl
theorem hoX_start : (.code yX_start cX_start 3 none : Cond) ∈ WX := List.mem_of_getElem? (i := 56) rfl
theorem hkX_41 : (.constant RX 41 262143 : Cond) ∈ WX := List.mem_of_getElem? (i := 57) rfl
theorem hnX_run : (.instanceMethod yX_run : Cond) ∈ WX := List.mem_of_getElem? (i := 58) rfl
theorem hoX_run : (.code yX_run cX_run 3 (some .int) : Cond) ∈ WX := List.mem_of_getElem? (i := 59) rfl
theorem hmX_55 : (.methodLink RX 55 yX_step : Cond) ∈ WX := List.mem_of_getElem? (i := 60) rfl
theorem hnX_step : (.instanceMethod yX_step : Cond) ∈ WX := List.mem_of_getElem? (i := 61) rfl
theorem hoX_step : (.code yX_step cX_step 6 none : Cond) ∈ WX := List.mem_of_getElem? (i := 62) rfl
theorem hmX_73 : (.methodLink RX 73 yX_read : Cond) ∈ WX := List.mem_of_getElem? (i := 63) rfl
theorem hnX_read : (.instanceMethod yX_read : Cond) ∈ WX := List.mem_of_getElem? (i := 64) rfl
theorem hoX_read : (.code yX_read cX_read 3 (some .long) : Cond) ∈ WX := List.mem_of_getElem? (i := 65) rfl
theorem hmX_150 : (.methodLink RX 150 yX_placeOf : Cond) ∈ WX := List.mem_of_getElem? (i := 66) rfl
theorem hnX_placeOf : (.instanceMethod yX_placeOf : Cond) ∈ WX := List.mem_of_getElem? (i := 67) rfl
theorem hoX_placeOf : (.code yX_placeOf cX_placeOf 3 (some .int) : Cond) ∈ WX := List.mem_of_getElem? (i := 68) rfl
theorem hkX_110 : (.constant RX 110 131072 : Cond) ∈ WX := List.mem_of_getElem? (i := 69) rfl
theorem hmX_147 : (.methodLink RX 147 yX_raise : Cond) ∈ WX := List.mem_of_getElem? (i := 70) rfl
theorem hnX_raise : (.instanceMethod yX_raise : Cond) ∈ WX := List.mem_of_getElem? (i := 71) rfl
theorem hoX_raise : (.code yX_raise cX_raise 2 none : Cond) ∈ WX := List.mem_of_getElem? (i := 72) rfl
theorem hmX_77 : (.methodLink RX 77 yX_wrapped : Cond) ∈ WX := List.mem_of_getElem? (i := 73) rfl
theorem hsX_wrapped : (.static yX_wrapped : Cond) ∈ WX := List.mem_of_getElem? (i := 74) rfl
theorem hoX_wrapped : (.code yX_wrapped cX_wrapped 1 (some .int) : Cond) ∈ WX := List.mem_of_getElem? (i := 75) rfl
theorem hmX_81 : (.methodLink RX 81 yX_effective : Cond) ∈ WX := List.mem_of_getElem? (i := 76) rfl
theorem hnX_effective : (.instanceMethod yX_effective : Cond) ∈ WX := List.mem_of_getElem? (i := 77) rfl
theorem hoX_effective : (.code yX_effective cX_effective 7 (some .int) : Cond) ∈ WX := List.mem_of_getElem? (i := 78) rfl
theorem hmX_157 : (.methodLink RX 157 yX_indexed : Cond) ∈ WX := List.mem_of_getElem? (i := 79) rfl
theorem hnX_indexed : (.instanceMethod yX_indexed : Cond) ∈ WX := List.mem_of_getElem? (i := 80) rfl
theorem hoX_indexed : (.code yX_indexed cX_indexed 5 (some .int) : Cond) ∈ WX := List.mem_of_getElem? (i := 81) rfl
theorem hmX_164 : (.methodLink RX 164 yX_right : Cond) ∈ WX := List.mem_of_getElem? (i := 82) rfl
theorem hsX_right : (.static yX_right : Cond) ∈ WX := List.mem_of_getElem? (i := 83) rfl
theorem hoX_right : (.code yX_right cX_right 2 (some .int) : Cond) ∈ WX := List.mem_of_getElem? (i := 84) rfl
theorem hmX_160 : (.methodLink RX 160 yX_isIndirect : Cond) ∈ WX := List.mem_of_getElem? (i := 85) rfl
theorem hsX_isIndirect : (.static yX_isIndirect : Cond) ∈ WX := List.mem_of_getElem? (i := 86) rfl
theorem hoX_isIndirect : (.code yX_isIndirect cX_isIndirect 2 (some .boolean) : Cond) ∈ WX := List.mem_of_getElem? (i := 87) rfl
theorem hmX_88 : (.methodLink RX 88 yX_take : Cond) ∈ WX := List.mem_of_getElem? (i := 88) rfl
theorem hnX_take : (.instanceMethod yX_take : Cond) ∈ WX := List.mem_of_getElem? (i := 89) rfl
theorem hoX_take : (.code yX_take cX_take 2 (some .long) : Cond) ∈ WX := List.mem_of_getElem? (i := 90) rfl
theorem hmX_85 : (.methodLink RX 85 yX_operation : Cond) ∈ WX := List.mem_of_getElem? (i := 91) rfl
theorem hsX_operation : (.static yX_operation : Cond) ∈ WX := List.mem_of_getElem? (i := 92) rfl
theorem hoX_operation : (.code yX_operation cX_operation 2 (some .int) : Cond) ∈ WX := List.mem_of_getElem? (i := 93) rfl
theorem hmX_91 : (.methodLink RX 91 yX_accumulator : Cond) ∈ WX := List.mem_of_getElem? (i := 94) rfl
theorem hsX_accumulator : (.static yX_accumulator : Cond) ∈ WX := List.mem_of_getElem? (i := 95) rfl
theorem hoX_accumulator : (.code yX_accumulator cX_accumulator 2 (some .int) : Cond) ∈ WX := List.mem_of_getElem? (i := 96) rfl
theorem hmX_94 : (.methodLink RX 94 yX_carryOut : Cond) ∈ WX := List.mem_of_getElem? (i := 97) rfl
theorem hnX_carryOut : (.instanceMethod yX_carryOut : Cond) ∈ WX := List.mem_of_getElem? (i := 98) rfl
theorem hoX_carryOut : (.code yX_carryOut cX_carryOut 4 none : Cond) ∈ WX := List.mem_of_getElem? (i := 99) rfl
theorem hmX_111 : (.methodLink RX 111 yX_bytes : Cond) ∈ WX := List.mem_of_getElem? (i := 100) rfl
theorem hnX_bytes : (.instanceMethod yX_bytes : Cond) ∈ WX := List.mem_of_getElem? (i := 101) rfl
theorem hoX_bytes : (.code yX_bytes cX_bytes 7 none : Cond) ∈ WX := List.mem_of_getElem? (i := 102) rfl
theorem hmX_301 : (.methodLink RX 301 yX_advancePointer : Cond) ∈ WX := List.mem_of_getElem? (i := 103) rfl
theorem hnX_advancePointer : (.instanceMethod yX_advancePointer : Cond) ∈ WX := List.mem_of_getElem? (i := 104) rfl
theorem hoX_advancePointer : (.code yX_advancePointer cX_advancePointer 7 none : Cond) ∈ WX := List.mem_of_getElem? (i := 105) rfl
theorem hmX_314 : (.methodLink RX 314 yX_position : Cond) ∈ WX := List.mem_of_getElem? (i := 106) rfl
theorem hsX_position : (.static yX_position : Cond) ∈ WX := List.mem_of_getElem? (i := 107) rfl
theorem hoX_position : (.code yX_position cX_position 2 (some .int) : Cond) ∈ WX := List.mem_of_getElem? (i := 108) rfl
theorem hmX_311 : (.methodLink RX 311 yX_size : Cond) ∈ WX := List.mem_of_getElem? (i := 109) rfl
theorem hsX_size : (.static yX_size : Cond) ∈ WX := List.mem_of_getElem? (i := 110) rfl
theorem hoX_size : (.code yX_size cX_size 2 (some .int) : Cond) ∈ WX := List.mem_of_getElem? (i := 111) rfl
theorem hmX_288 : (.methodLink RX 288 yJ_max : Cond) ∈ WX := List.mem_of_getElem? (i := 112) rfl
theorem hsJ_max : (.static yJ_max : Cond) ∈ WX := List.mem_of_getElem? (i := 113) rfl
theorem hoJ_max : (.code yJ_max cJ_max 2 (some .int) : Cond) ∈ WX := List.mem_of_getElem? (i := 114) rfl
theorem hmX_167 : (.methodLink RX 167 yX_left : Cond) ∈ WX := List.mem_of_getElem? (i := 115) rfl
theorem hsX_left : (.static yX_left : Cond) ∈ WX := List.mem_of_getElem? (i := 116) rfl
theorem hoX_left : (.code yX_left cX_left 2 (some .int) : Cond) ∈ WX := List.mem_of_getElem? (i := 117) rfl
theorem hmX_106 : (.methodLink RX 106 yX_joined : Cond) ∈ WX := List.mem_of_getElem? (i := 118) rfl
theorem hsX_joined : (.static yX_joined : Cond) ∈ WX := List.mem_of_getElem? (i := 119) rfl
theorem hoX_joined : (.code yX_joined cX_joined 2 (some .long) : Cond) ∈ WX := List.mem_of_getElem? (i := 120) rfl
theorem hmX_176 : (.methodLink RX 176 yX_write : Cond) ∈ WX := List.mem_of_getElem? (i := 121) rfl
theorem hnX_write : (.instanceMethod yX_write : Cond) ∈ WX := List.mem_of_getElem? (i := 122) rfl
theorem hoX_write : (.code yX_write cX_write 5 none : Cond) ∈ WX := List.mem_of_getElem? (i := 123) rfl
theorem hmX_304 : (.methodLink RX 304 yX_loadByte : Cond) ∈ WX := List.mem_of_getElem? (i := 124) rfl
theorem hnX_loadByte : (.instanceMethod yX_loadByte : Cond) ∈ WX := List.mem_of_getElem? (i := 125) rfl
theorem hoX_loadByte : (.code yX_loadByte cX_loadByte 7 none : Cond) ∈ WX := List.mem_of_getElem? (i := 126) rfl
theorem hmX_317 : (.methodLink RX 317 yX_byteMask : Cond) ∈ WX := List.mem_of_getElem? (i := 127) rfl
theorem hsX_byteMask : (.static yX_byteMask : Cond) ∈ WX := List.mem_of_getElem? (i := 128) rfl
theorem hoX_byteMask : (.code yX_byteMask cX_byteMask 2 (some .long) : Cond) ∈ WX := List.mem_of_getElem? (i := 129) rfl
theorem hmX_264 : (.methodLink RX 264 yJ_min : Cond) ∈ WX := List.mem_of_getElem? (i := 130) rfl
theorem hsJ_min : (.static yJ_min : Cond) ∈ WX := List.mem_of_getElem? (i := 131) rfl
theorem hoJ_min : (.code yJ_min cJ_min 2 (some .int) : Cond) ∈ WX := List.mem_of_getElem? (i := 132) rfl
theorem hmX_153 : (.methodLink RX 153 yX_setAccumulator : Cond) ∈ WX := List.mem_of_getElem? (i := 133) rfl
theorem hnX_setAccumulator : (.instanceMethod yX_setAccumulator : Cond) ∈ WX := List.mem_of_getElem? (i := 134) rfl
theorem hoX_setAccumulator : (.code yX_setAccumulator cX_setAccumulator 4 none : Cond) ∈ WX := List.mem_of_getElem? (i := 135) rfl
theorem hmX_308 : (.methodLink RX 308 yX_depositByte : Cond) ∈ WX := List.mem_of_getElem? (i := 136) rfl
theorem hnX_depositByte : (.instanceMethod yX_depositByte : Cond) ∈ WX := List.mem_of_getElem? (i := 137) rfl
theorem hoX_depositByte : (.code yX_depositByte cX_depositByte 9 none : Cond) ∈ WX := List.mem_of_getElem? (i := 138) rfl
theorem hmX_114 : (.methodLink RX 114 yX_move : Cond) ∈ WX := List.mem_of_getElem? (i := 139) rfl
theorem hnX_move : (.instanceMethod yX_move : Cond) ∈ WX := List.mem_of_getElem? (i := 140) rfl
theorem hoX_move : (.code yX_move cX_move 7 none : Cond) ∈ WX := List.mem_of_getElem? (i := 141) rfl
theorem hmX_182 : (.methodLink RX 182 yX_movedSource : Cond) ∈ WX := List.mem_of_getElem? (i := 142) rfl
theorem hnX_movedSource : (.instanceMethod yX_movedSource : Cond) ∈ WX := List.mem_of_getElem? (i := 143) rfl
theorem hoX_movedSource : (.code yX_movedSource cX_movedSource 4 (some .long) : Cond) ∈ WX := List.mem_of_getElem? (i := 144) rfl
theorem hmX_173 : (.methodLink RX 173 yX_source : Cond) ∈ WX := List.mem_of_getElem? (i := 145) rfl
theorem hnX_source : (.instanceMethod yX_source : Cond) ∈ WX := List.mem_of_getElem? (i := 146) rfl
theorem hoX_source : (.code yX_source cX_source 3 (some .long) : Cond) ∈ WX := List.mem_of_getElem? (i := 147) rfl
theorem hmX_186 : (.methodLink RX 186 yX_changedToMove : Cond) ∈ WX := List.mem_of_getElem? (i := 148) rfl
theorem hnX_changedToMove : (.instanceMethod yX_changedToMove : Cond) ∈ WX := List.mem_of_getElem? (i := 149) rfl
theorem hoX_changedToMove : (.code yX_changedToMove cX_changedToMove 4 (some .long) : Cond) ∈ WX := List.mem_of_getElem? (i := 150) rfl
theorem hmX_194 : (.methodLink RX 194 yX_swapped : Cond) ∈ WX := List.mem_of_getElem? (i := 151) rfl
theorem hsX_swapped : (.static yX_swapped : Cond) ∈ WX := List.mem_of_getElem? (i := 152) rfl
theorem hoX_swapped : (.code yX_swapped cX_swapped 2 (some .long) : Cond) ∈ WX := List.mem_of_getElem? (i := 153) rfl
theorem hmX_197 : (.methodLink RX 197 yX_fitted : Cond) ∈ WX := List.mem_of_getElem? (i := 154) rfl
theorem hnX_fitted : (.instanceMethod yX_fitted : Cond) ∈ WX := List.mem_of_getElem? (i := 155) rfl
theorem hoX_fitted : (.code yX_fitted cX_fitted 5 (some .long) : Cond) ∈ WX := List.mem_of_getElem? (i := 156) rfl
theorem hmX_170 : (.methodLink RX 170 yX_setOverflow : Cond) ∈ WX := List.mem_of_getElem? (i := 157) rfl
theorem hnX_setOverflow : (.instanceMethod yX_setOverflow : Cond) ∈ WX := List.mem_of_getElem? (i := 158) rfl
theorem hoX_setOverflow : (.code yX_setOverflow cX_setOverflow 1 none : Cond) ∈ WX := List.mem_of_getElem? (i := 159) rfl
theorem hmX_200 : (.methodLink RX 200 yJ_abs : Cond) ∈ WX := List.mem_of_getElem? (i := 160) rfl
theorem hsJ_abs : (.static yJ_abs : Cond) ∈ WX := List.mem_of_getElem? (i := 161) rfl
theorem hoJ_abs : (.code yJ_abs cJ_abs 2 (some .long) : Cond) ∈ WX := List.mem_of_getElem? (i := 162) rfl
theorem hmX_190 : (.methodLink RX 190 yX_putMoved : Cond) ∈ WX := List.mem_of_getElem? (i := 163) rfl
theorem hnX_putMoved : (.instanceMethod yX_putMoved : Cond) ∈ WX := List.mem_of_getElem? (i := 164) rfl
theorem hoX_putMoved : (.code yX_putMoved cX_putMoved 6 none : Cond) ∈ WX := List.mem_of_getElem? (i := 165) rfl
theorem hmX_179 : (.methodLink RX 179 yX_setAccumulatorButZero : Cond) ∈ WX := List.mem_of_getElem? (i := 166) rfl
theorem hnX_setAccumulatorButZero : (.instanceMethod yX_setAccumulatorButZero : Cond) ∈ WX := List.mem_of_getElem? (i := 167) rfl
theorem hoX_setAccumulatorButZero : (.code yX_setAccumulatorButZero cX_setAccumulatorButZero 4 none : Cond) ∈ WX := List.mem_of_getElem? (i := 168) rfl
theorem hmX_117 : (.methodLink RX 117 yX_multiply : Cond) ∈ WX := List.mem_of_getElem? (i := 169) rfl
theorem hnX_multiply : (.instanceMethod yX_multiply : Cond) ∈ WX := List.mem_of_getElem? (i := 170) rfl
theorem hoX_multiply : (.code yX_multiply cX_multiply 9 none : Cond) ∈ WX := List.mem_of_getElem? (i := 171) rfl
theorem hmX_208 : (.methodLink RX 208 yX_productFits : Cond) ∈ WX := List.mem_of_getElem? (i := 172) rfl
theorem hsX_productFits : (.static yX_productFits : Cond) ∈ WX := List.mem_of_getElem? (i := 173) rfl
theorem hoX_productFits : (.code yX_productFits cX_productFits 6 (some .boolean) : Cond) ∈ WX := List.mem_of_getElem? (i := 174) rfl
theorem hkX_212 : (.constantLong RX 212 262143 : Cond) ∈ WX := List.mem_of_getElem? (i := 175) rfl
theorem hkX_214 : (.constantLong RX 214 (-131072) : Cond) ∈ WX := List.mem_of_getElem? (i := 176) rfl
theorem hkX_216 : (.constantLong RX 216 131072 : Cond) ∈ WX := List.mem_of_getElem? (i := 177) rfl
theorem hmX_205 : (.methodLink RX 205 yX_putResult : Cond) ∈ WX := List.mem_of_getElem? (i := 178) rfl
theorem hnX_putResult : (.instanceMethod yX_putResult : Cond) ∈ WX := List.mem_of_getElem? (i := 179) rfl
theorem hoX_putResult : (.code yX_putResult cX_putResult 6 none : Cond) ∈ WX := List.mem_of_getElem? (i := 180) rfl
theorem hmX_120 : (.methodLink RX 120 yX_divide : Cond) ∈ WX := List.mem_of_getElem? (i := 181) rfl
theorem hnX_divide : (.instanceMethod yX_divide : Cond) ∈ WX := List.mem_of_getElem? (i := 182) rfl
theorem hoX_divide : (.code yX_divide cX_divide 9 none : Cond) ∈ WX := List.mem_of_getElem? (i := 183) rfl
theorem hkX_218 : (.constantLong RX 218 (-34359738368) : Cond) ∈ WX := List.mem_of_getElem? (i := 184) rfl
theorem hmX_123 : (.methodLink RX 123 yX_shift : Cond) ∈ WX := List.mem_of_getElem? (i := 185) rfl
theorem hnX_shift : (.instanceMethod yX_shift : Cond) ∈ WX := List.mem_of_getElem? (i := 186) rfl
theorem hoX_shift : (.code yX_shift cX_shift 5 none : Cond) ∈ WX := List.mem_of_getElem? (i := 187) rfl
theorem hmX_254 : (.methodLink RX 254 yX_shiftedAsNumber : Cond) ∈ WX := List.mem_of_getElem? (i := 188) rfl
theorem hnX_shiftedAsNumber : (.instanceMethod yX_shiftedAsNumber : Cond) ∈ WX := List.mem_of_getElem? (i := 189) rfl
theorem hoX_shiftedAsNumber : (.code yX_shiftedAsNumber cX_shiftedAsNumber 7 (some .long) : Cond) ∈ WX := List.mem_of_getElem? (i := 190) rfl
theorem hkX_268 : (.constantLong RX 268 34359738368 : Cond) ∈ WX := List.mem_of_getElem? (i := 191) rfl
theorem hmX_261 : (.methodLink RX 261 yX_shiftedAsBits : Cond) ∈ WX := List.mem_of_getElem? (i := 192) rfl
theorem hsX_shiftedAsBits : (.static yX_shiftedAsBits : Cond) ∈ WX := List.mem_of_getElem? (i := 193) rfl
theorem hoX_shiftedAsBits : (.code yX_shiftedAsBits cX_shiftedAsBits 3 (some .long) : Cond) ∈ WX := List.mem_of_getElem? (i := 194) rfl
theorem hkX_270 : (.constantLong RX 270 (-34359738369) : Cond) ∈ WX := List.mem_of_getElem? (i := 195) rfl
theorem hmX_258 : (.methodLink RX 258 yX_rotated : Cond) ∈ WX := List.mem_of_getElem? (i := 196) rfl
theorem hsX_rotated : (.static yX_rotated : Cond) ∈ WX := List.mem_of_getElem? (i := 197) rfl
theorem hoX_rotated : (.code yX_rotated cX_rotated 4 (some .long) : Cond) ∈ WX := List.mem_of_getElem? (i := 198) rfl
theorem hmX_272 : (.methodLink RX 272 yJ_floorMod : Cond) ∈ WX := List.mem_of_getElem? (i := 199) rfl
theorem hsJ_floorMod : (.static yJ_floorMod : Cond) ∈ WX := List.mem_of_getElem? (i := 200) rfl
theorem hoJ_floorMod : (.code yJ_floorMod cJ_floorMod 3 (some .int) : Cond) ∈ WX := List.mem_of_getElem? (i := 201) rfl
theorem hmX_126 : (.methodLink RX 126 yX_exchangeOrJump : Cond) ∈ WX := List.mem_of_getElem? (i := 202) rfl
theorem hnX_exchangeOrJump : (.instanceMethod yX_exchangeOrJump : Cond) ∈ WX := List.mem_of_getElem? (i := 203) rfl
theorem hoX_exchangeOrJump : (.code yX_exchangeOrJump cX_exchangeOrJump 4 none : Cond) ∈ WX := List.mem_of_getElem? (i := 204) rfl
theorem hmX_275 : (.methodLink RX 275 yX_exchange : Cond) ∈ WX := List.mem_of_getElem? (i := 205) rfl
theorem hnX_exchange : (.instanceMethod yX_exchange : Cond) ∈ WX := List.mem_of_getElem? (i := 206) rfl
theorem hoX_exchange : (.code yX_exchange cX_exchange 5 none : Cond) ∈ WX := List.mem_of_getElem? (i := 207) rfl
theorem hmX_279 : (.methodLink RX 279 yX_block : Cond) ∈ WX := List.mem_of_getElem? (i := 208) rfl
theorem hnX_block : (.instanceMethod yX_block : Cond) ∈ WX := List.mem_of_getElem? (i := 209) rfl
theorem hoX_block : (.code yX_block cX_block 7 none : Cond) ∈ WX := List.mem_of_getElem? (i := 210) rfl
theorem hmX_282 : (.methodLink RX 282 yX_moveHalves : Cond) ∈ WX := List.mem_of_getElem? (i := 211) rfl
theorem hnX_moveHalves : (.instanceMethod yX_moveHalves : Cond) ∈ WX := List.mem_of_getElem? (i := 212) rfl
theorem hoX_moveHalves : (.code yX_moveHalves cX_moveHalves 5 none : Cond) ∈ WX := List.mem_of_getElem? (i := 213) rfl
theorem hmX_239 : (.methodLink RX 239 yX_jumpIf : Cond) ∈ WX := List.mem_of_getElem? (i := 214) rfl
theorem hnX_jumpIf : (.instanceMethod yX_jumpIf : Cond) ∈ WX := List.mem_of_getElem? (i := 215) rfl
theorem hoX_jumpIf : (.code yX_jumpIf cX_jumpIf 3 none : Cond) ∈ WX := List.mem_of_getElem? (i := 216) rfl
theorem hmX_285 : (.methodLink RX 285 yX_jumpByAccumulator : Cond) ∈ WX := List.mem_of_getElem? (i := 217) rfl
theorem hnX_jumpByAccumulator : (.instanceMethod yX_jumpByAccumulator : Cond) ∈ WX := List.mem_of_getElem? (i := 218) rfl
theorem hoX_jumpByAccumulator : (.code yX_jumpByAccumulator cX_jumpByAccumulator 3 none : Cond) ∈ WX := List.mem_of_getElem? (i := 219) rfl
theorem hmX_129 : (.methodLink RX 129 yX_stack : Cond) ∈ WX := List.mem_of_getElem? (i := 220) rfl
theorem hnX_stack : (.instanceMethod yX_stack : Cond) ∈ WX := List.mem_of_getElem? (i := 221) rfl
theorem hoX_stack : (.code yX_stack cX_stack 4 none : Cond) ∈ WX := List.mem_of_getElem? (i := 222) rfl
theorem hmX_291 : (.methodLink RX 291 yX_growStack : Cond) ∈ WX := List.mem_of_getElem? (i := 223) rfl
theorem hnX_growStack : (.instanceMethod yX_growStack : Cond) ∈ WX := List.mem_of_getElem? (i := 224) rfl
theorem hoX_growStack : (.code yX_growStack cX_growStack 2 none : Cond) ∈ WX := List.mem_of_getElem? (i := 225) rfl
theorem hmX_294 : (.methodLink RX 294 yX_pcWord : Cond) ∈ WX := List.mem_of_getElem? (i := 226) rfl
theorem hnX_pcWord : (.instanceMethod yX_pcWord : Cond) ∈ WX := List.mem_of_getElem? (i := 227) rfl
theorem hoX_pcWord : (.code yX_pcWord cX_pcWord 1 (some .long) : Cond) ∈ WX := List.mem_of_getElem? (i := 228) rfl
theorem hmX_102 : (.methodLink RX 102 yX_flags : Cond) ∈ WX := List.mem_of_getElem? (i := 229) rfl
theorem hnX_flags : (.instanceMethod yX_flags : Cond) ∈ WX := List.mem_of_getElem? (i := 230) rfl
theorem hoX_flags : (.code yX_flags cX_flags 1 (some .int) : Cond) ∈ WX := List.mem_of_getElem? (i := 231) rfl
theorem hmX_298 : (.methodLink RX 298 yX_shrinkStack : Cond) ∈ WX := List.mem_of_getElem? (i := 232) rfl
theorem hnX_shrinkStack : (.instanceMethod yX_shrinkStack : Cond) ∈ WX := List.mem_of_getElem? (i := 233) rfl
theorem hoX_shrinkStack : (.code yX_shrinkStack cX_shrinkStack 2 none : Cond) ∈ WX := List.mem_of_getElem? (i := 234) rfl
theorem hmX_132 : (.methodLink RX 132 yX_sum : Cond) ∈ WX := List.mem_of_getElem? (i := 235) rfl
theorem hnX_sum : (.instanceMethod yX_sum : Cond) ∈ WX := List.mem_of_getElem? (i := 236) rfl
theorem hoX_sum : (.code yX_sum cX_sum 10 none : Cond) ∈ WX := List.mem_of_getElem? (i := 237) rfl
theorem hmX_135 : (.methodLink RX 135 yX_compare : Cond) ∈ WX := List.mem_of_getElem? (i := 238) rfl
theorem hnX_compare : (.instanceMethod yX_compare : Cond) ∈ WX := List.mem_of_getElem? (i := 239) rfl
theorem hoX_compare : (.code yX_compare cX_compare 7 none : Cond) ∈ WX := List.mem_of_getElem? (i := 240) rfl
theorem hmX_236 : (.methodLink RX 236 yX_holds : Cond) ∈ WX := List.mem_of_getElem? (i := 241) rfl
theorem hsX_holds : (.static yX_holds : Cond) ∈ WX := List.mem_of_getElem? (i := 242) rfl
theorem hoX_holds : (.code yX_holds cX_holds 3 (some .boolean) : Cond) ∈ WX := List.mem_of_getElem? (i := 243) rfl
theorem hmX_228 : (.methodLink RX 228 yX_skipIf : Cond) ∈ WX := List.mem_of_getElem? (i := 244) rfl
theorem hnX_skipIf : (.instanceMethod yX_skipIf : Cond) ∈ WX := List.mem_of_getElem? (i := 245) rfl
theorem hoX_skipIf : (.code yX_skipIf cX_skipIf 2 none : Cond) ∈ WX := List.mem_of_getElem? (i := 246) rfl
theorem hmX_243 : (.methodLink RX 243 yX_skipOnWord : Cond) ∈ WX := List.mem_of_getElem? (i := 247) rfl
theorem hnX_skipOnWord : (.instanceMethod yX_skipOnWord : Cond) ∈ WX := List.mem_of_getElem? (i := 248) rfl
theorem hoX_skipOnWord : (.code yX_skipOnWord cX_skipOnWord 5 none : Cond) ∈ WX := List.mem_of_getElem? (i := 249) rfl
theorem hmX_247 : (.methodLink RX 247 yX_countAndJump : Cond) ∈ WX := List.mem_of_getElem? (i := 250) rfl
theorem hnX_countAndJump : (.instanceMethod yX_countAndJump : Cond) ∈ WX := List.mem_of_getElem? (i := 251) rfl
theorem hoX_countAndJump : (.code yX_countAndJump cX_countAndJump 7 none : Cond) ∈ WX := List.mem_of_getElem? (i := 252) rfl
theorem hmX_251 : (.methodLink RX 251 yX_countAndSkip : Cond) ∈ WX := List.mem_of_getElem? (i := 253) rfl
theorem hnX_countAndSkip : (.instanceMethod yX_countAndSkip : Cond) ∈ WX := List.mem_of_getElem? (i := 254) rfl
theorem hoX_countAndSkip : (.code yX_countAndSkip cX_countAndSkip 7 none : Cond) ∈ WX := List.mem_of_getElem? (i := 255) rfl
theorem hmX_138 : (.methodLink RX 138 yX_logic : Cond) ∈ WX := List.mem_of_getElem? (i := 256) rfl
theorem hnX_logic : (.instanceMethod yX_logic : Cond) ∈ WX := List.mem_of_getElem? (i := 257) rfl
theorem hoX_logic : (.code yX_logic cX_logic 12 none : Cond) ∈ WX := List.mem_of_getElem? (i := 258) rfl
theorem hmX_141 : (.methodLink RX 141 yX_halves : Cond) ∈ WX := List.mem_of_getElem? (i := 259) rfl
theorem hnX_halves : (.instanceMethod yX_halves : Cond) ∈ WX := List.mem_of_getElem? (i := 260) rfl
theorem hoX_halves : (.code yX_halves cX_halves 13 none : Cond) ∈ WX := List.mem_of_getElem? (i := 261) rfl
theorem hmX_220 : (.methodLink RX 220 yX_otherHalf : Cond) ∈ WX := List.mem_of_getElem? (i := 262) rfl
theorem hsX_otherHalf : (.static yX_otherHalf : Cond) ∈ WX := List.mem_of_getElem? (i := 263) rfl
theorem hoX_otherHalf : (.code yX_otherHalf cX_otherHalf 3 (some .int) : Cond) ∈ WX := List.mem_of_getElem? (i := 264) rfl
theorem hmX_144 : (.methodLink RX 144 yX_test : Cond) ∈ WX := List.mem_of_getElem? (i := 265) rfl
theorem hnX_test : (.instanceMethod yX_test : Cond) ∈ WX := List.mem_of_getElem? (i := 266) rfl
theorem hoX_test : (.code yX_test cX_test 8 none : Cond) ∈ WX := List.mem_of_getElem? (i := 267) rfl
theorem hmX_224 : (.methodLink RX 224 yX_testSkips : Cond) ∈ WX := List.mem_of_getElem? (i := 268) rfl
theorem hsX_testSkips : (.static yX_testSkips : Cond) ∈ WX := List.mem_of_getElem? (i := 269) rfl
theorem hoX_testSkips : (.code yX_testSkips cX_testSkips 3 (some .boolean) : Cond) ∈ WX := List.mem_of_getElem? (i := 270) rfl
theorem hmX_232 : (.methodLink RX 232 yX_maskedChange : Cond) ∈ WX := List.mem_of_getElem? (i := 271) rfl
theorem hsX_maskedChange : (.static yX_maskedChange : Cond) ∈ WX := List.mem_of_getElem? (i := 272) rfl
theorem hoX_maskedChange : (.code yX_maskedChange cX_maskedChange 5 (some .long) : Cond) ∈ WX := List.mem_of_getElem? (i := 273) rfl
theorem hmX_98 : (.methodLink RX 98 yX_enterTrap : Cond) ∈ WX := List.mem_of_getElem? (i := 274) rfl
theorem hnX_enterTrap : (.instanceMethod yX_enterTrap : Cond) ∈ WX := List.mem_of_getElem? (i := 275) rfl
theorem hoX_enterTrap : (.code yX_enterTrap cX_enterTrap 2 none : Cond) ∈ WX := List.mem_of_getElem? (i := 276) rfl
theorem hnX_look : (.instanceMethod yX_look : Cond) ∈ WX := List.mem_of_getElem? (i := 277) rfl
theorem hoX_look : (.code yX_look cX_look 2 (some .int) : Cond) ∈ WX := List.mem_of_getElem? (i := 278) rfl
theorem hvX_deposit : (.selects RX yX_deposit yX_deposit : Cond) ∈ WX := List.mem_of_getElem? (i := 279) rfl
theorem hvX_examine : (.selects RX yX_examine yX_examine : Cond) ∈ WX := List.mem_of_getElem? (i := 280) rfl
theorem hvX_number : (.selects RX yX_number yX_number : Cond) ∈ WX := List.mem_of_getElem? (i := 281) rfl
theorem hvX_segment : (.selects RX yX_segment yX_segment : Cond) ∈ WX := List.mem_of_getElem? (i := 282) rfl
theorem hvX_start : (.selects RX yX_start yX_start : Cond) ∈ WX := List.mem_of_getElem? (i := 283) rfl
theorem hvX_run : (.selects RX yX_run yX_run : Cond) ∈ WX := List.mem_of_getElem? (i := 284) rfl
theorem hvX_look : (.selects RX yX_look yX_look : Cond) ∈ WX := List.mem_of_getElem? (i := 285) rfl
theorem hvX_step : (.selects RX yX_step yX_step : Cond) ∈ WX := List.mem_of_getElem? (i := 286) rfl
theorem hvX_enterTrap : (.selects RX yX_enterTrap yX_enterTrap : Cond) ∈ WX := List.mem_of_getElem? (i := 287) rfl
theorem hvX_raise : (.selects RX yX_raise yX_raise : Cond) ∈ WX := List.mem_of_getElem? (i := 288) rfl
theorem hvX_flags : (.selects RX yX_flags yX_flags : Cond) ∈ WX := List.mem_of_getElem? (i := 289) rfl
theorem hvX_pcWord : (.selects RX yX_pcWord yX_pcWord : Cond) ∈ WX := List.mem_of_getElem? (i := 290) rfl
theorem hvX_carryOut : (.selects RX yX_carryOut yX_carryOut : Cond) ∈ WX := List.mem_of_getElem? (i := 291) rfl
theorem hvX_placeOf : (.selects RX yX_placeOf yX_placeOf : Cond) ∈ WX := List.mem_of_getElem? (i := 292) rfl
theorem hvX_read : (.selects RX yX_read yX_read : Cond) ∈ WX := List.mem_of_getElem? (i := 293) rfl
theorem hvX_write : (.selects RX yX_write yX_write : Cond) ∈ WX := List.mem_of_getElem? (i := 294) rfl
theorem hvX_setAccumulator : (.selects RX yX_setAccumulator yX_setAccumulator : Cond) ∈ WX := List.mem_of_getElem? (i := 295) rfl
theorem hvX_setAccumulatorButZero : (.selects RX yX_setAccumulatorButZero yX_setAccumulatorButZero : Cond) ∈ WX := List.mem_of_getElem? (i := 296) rfl
theorem hvX_setOverflow : (.selects RX yX_setOverflow yX_setOverflow : Cond) ∈ WX := List.mem_of_getElem? (i := 297) rfl
theorem hvX_effective : (.selects RX yX_effective yX_effective : Cond) ∈ WX := List.mem_of_getElem? (i := 298) rfl
theorem hvX_take : (.selects RX yX_take yX_take : Cond) ∈ WX := List.mem_of_getElem? (i := 299) rfl
theorem hvX_indexed : (.selects RX yX_indexed yX_indexed : Cond) ∈ WX := List.mem_of_getElem? (i := 300) rfl
theorem hvX_skipIf : (.selects RX yX_skipIf yX_skipIf : Cond) ∈ WX := List.mem_of_getElem? (i := 301) rfl
theorem hvX_jumpIf : (.selects RX yX_jumpIf yX_jumpIf : Cond) ∈ WX := List.mem_of_getElem? (i := 302) rfl
theorem hvX_fitted : (.selects RX yX_fitted yX_fitted : Cond) ∈ WX := List.mem_of_getElem? (i := 303) rfl
theorem hvX_source : (.selects RX yX_source yX_source : Cond) ∈ WX := List.mem_of_getElem? (i := 304) rfl
theorem hvX_movedSource : (.selects RX yX_movedSource yX_movedSource : Cond) ∈ WX := List.mem_of_getElem? (i := 305) rfl
theorem hvX_putMoved : (.selects RX yX_putMoved yX_putMoved : Cond) ∈ WX := List.mem_of_getElem? (i := 306) rfl
theorem hvX_putResult : (.selects RX yX_putResult yX_putResult : Cond) ∈ WX := List.mem_of_getElem? (i := 307) rfl
theorem hvX_move : (.selects RX yX_move yX_move : Cond) ∈ WX := List.mem_of_getElem? (i := 308) rfl
theorem hvX_changedToMove : (.selects RX yX_changedToMove yX_changedToMove : Cond) ∈ WX := List.mem_of_getElem? (i := 309) rfl
theorem hvX_sum : (.selects RX yX_sum yX_sum : Cond) ∈ WX := List.mem_of_getElem? (i := 310) rfl
theorem hvX_multiply : (.selects RX yX_multiply yX_multiply : Cond) ∈ WX := List.mem_of_getElem? (i := 311) rfl
theorem hvX_divide : (.selects RX yX_divide yX_divide : Cond) ∈ WX := List.mem_of_getElem? (i := 312) rfl
theorem hvX_logic : (.selects RX yX_logic yX_logic : Cond) ∈ WX := List.mem_of_getElem? (i := 313) rfl
theorem hvX_halves : (.selects RX yX_halves yX_halves : Cond) ∈ WX := List.mem_of_getElem? (i := 314) rfl
theorem hvX_test : (.selects RX yX_test yX_test : Cond) ∈ WX := List.mem_of_getElem? (i := 315) rfl
theorem hvX_compare : (.selects RX yX_compare yX_compare : Cond) ∈ WX := List.mem_of_getElem? (i := 316) rfl
theorem hvX_skipOnWord : (.selects RX yX_skipOnWord yX_skipOnWord : Cond) ∈ WX := List.mem_of_getElem? (i := 317) rfl
theorem hvX_countAndJump : (.selects RX yX_countAndJump yX_countAndJump : Cond) ∈ WX := List.mem_of_getElem? (i := 318) rfl
theorem hvX_countAndSkip : (.selects RX yX_countAndSkip yX_countAndSkip : Cond) ∈ WX := List.mem_of_getElem? (i := 319) rfl
theorem hvX_shift : (.selects RX yX_shift yX_shift : Cond) ∈ WX := List.mem_of_getElem? (i := 320) rfl
theorem hvX_shiftedAsNumber : (.selects RX yX_shiftedAsNumber yX_shiftedAsNumber : Cond) ∈ WX := List.mem_of_getElem? (i := 321) rfl
theorem hvX_exchangeOrJump : (.selects RX yX_exchangeOrJump yX_exchangeOrJump : Cond) ∈ WX := List.mem_of_getElem? (i := 322) rfl
theorem hvX_exchange : (.selects RX yX_exchange yX_exchange : Cond) ∈ WX := List.mem_of_getElem? (i := 323) rfl
theorem hvX_block : (.selects RX yX_block yX_block : Cond) ∈ WX := List.mem_of_getElem? (i := 324) rfl
theorem hvX_jumpByAccumulator : (.selects RX yX_jumpByAccumulator yX_jumpByAccumulator : Cond) ∈ WX := List.mem_of_getElem? (i := 325) rfl
theorem hvX_moveHalves : (.selects RX yX_moveHalves yX_moveHalves : Cond) ∈ WX := List.mem_of_getElem? (i := 326) rfl
theorem hvX_growStack : (.selects RX yX_growStack yX_growStack : Cond) ∈ WX := List.mem_of_getElem? (i := 327) rfl
theorem hvX_shrinkStack : (.selects RX yX_shrinkStack yX_shrinkStack : Cond) ∈ WX := List.mem_of_getElem? (i := 328) rfl
theorem hvX_stack : (.selects RX yX_stack yX_stack : Cond) ∈ WX := List.mem_of_getElem? (i := 329) rfl
theorem hvX_bytes : (.selects RX yX_bytes yX_bytes : Cond) ∈ WX := List.mem_of_getElem? (i := 330) rfl
theorem hvX_advancePointer : (.selects RX yX_advancePointer yX_advancePointer : Cond) ∈ WX := List.mem_of_getElem? (i := 331) rfl
theorem hvX_loadByte : (.selects RX yX_loadByte yX_loadByte : Cond) ∈ WX := List.mem_of_getElem? (i := 332) rfl
theorem hvX_depositByte : (.selects RX yX_depositByte yX_depositByte : Cond) ∈ WX := List.mem_of_getElem? (i := 333) rfl
set_option maxRecDepth 100000 in
theorem goodX : GoodIn WX WX := goodIn_sub (fun _ h => h) (by decide +kernel)
set_option maxRecDepth 100000 in
theorem inX : ∀ w ∈ u_ws RX TX 14, w ∈ WX := by decide +kernel
def WM : List Cond := [.initialized RM,
  .instanceMethod objectInit,
  .code objectInit ⟨#[0xb1]⟩ 1 none,
  .arrayClass .long,
  .instanceMethod yM_init,
  .code yM_init cM_init 1 none,
  .methodLink RM 1 objectInit,
  .fieldLink RM 7 RM "store" "[J",
  .fieldLink RM 13 RM "base" "[I",
  .fieldLink RM 17 RM "bound" "[I",
  .fieldLink RM 31 RM "user" "Z",
  .fieldLink RM 44 RM "overflow" "Z",
  .fieldLink RM 202 RM "stopped" "Z",
  .fieldLink RM 47 RM "pc" "I",
  .fieldLink RM 81 RM "steps" "I",
  .fieldLink RM 93 RM "traps" "I",
  .fieldLink RM 96 RM "latest" "I",
  .fieldLink RM 27 RM "wrong" "I",
  .fieldLink RM 53 RM "taken" "I",
  .laysFinal RM RM "store" "[J",
  .laysFinal RM RM "base" "[I",
  .laysFinal RM RM "bound" "[I",
  .lays RM RM "user" "Z",
  .lays RM RM "overflow" "Z",
  .lays RM RM "stopped" "Z",
  .lays RM RM "pc" "I",
  .lays RM RM "steps" "I",
  .lays RM RM "traps" "I",
  .lays RM RM "latest" "I",
  .lays RM RM "wrong" "I",
  .lays RM RM "taken" "I",
  .arrayClass .int,
  .instanceMethod yM_deposit,
  .code yM_deposit cM_deposit 4 (some .boolean),
  .constantLong RM 22 68719476735,
  .instanceMethod yM_examine,
  .code yM_examine cM_examine 2 (some .long),
  .constantLong RM 150 (-1),
  .instanceMethod yM_number,
  .code yM_number cM_number 2 (some .long),
  .methodLink RM 146 yM_num,
  .static yM_num,
  .code yM_num cM_num 2 (some .long),
  .constantLong RM 20 34359738368,
  .instanceMethod yM_segment,
  .code yM_segment cM_segment 4 (some .boolean),
  .instanceMethod yM_start,
  .code yM_start cM_start 3 none,
  .constant RM 26 262143,
  .instanceMethod yM_run,
  .code yM_run cM_run 3 (some .int),
  .methodLink RM 205 yM_makeStep,
  .instanceMethod yM_makeStep,
  .code yM_makeStep cM_makeStep 5 none,
  .methodLink RM 58 yM_get,
  .instanceMethod yM_get,
  .code yM_get cM_get 3 (some .long),
  .methodLink RM 40 yM_where,
  .instanceMethod yM_where,
  .code yM_where cM_where 5 (some .int),
  .constant RM 35 131072,
  .methodLink RM 36 yM_fail,
  .instanceMethod yM_fail,
  .code yM_fail cM_fail 2 none,
  .methodLink RM 50 yM_go,
  .instanceMethod yM_go,
  .code yM_go cM_go 2 none,
  .methodLink RM 84 yM_effective,
  .instanceMethod yM_effective,
  .code yM_effective cM_effective 9 (some .int),
  .constantLong RM 56 15,
  .methodLink RM 62 yM_right,
  .static yM_right,
  .code yM_right cM_right 2 (some .int),
  .constantLong RM 24 262144,
  .methodLink RM 66 yM_bit,
  .static yM_bit,
  .code yM_bit cM_bit 3 (some .int),
  .methodLink RM 70 yM_count,
  .instanceMethod yM_count,
  .code yM_count cM_count 1 none,
  .constantLong RM 87 174,
  .methodLink RM 89 yM_obey,
  .instanceMethod yM_obey,
  .code yM_obey cM_obey 5 none,
  .methodLink RM 99 yM_compare,
  .instanceMethod yM_compare,
  .code yM_compare cM_compare 12 none,
  .methodLink RM 166 yM_holds,
  .static yM_holds,
  .code yM_holds cM_holds 3 (some .boolean),
  .methodLink RM 77 yM_holds0,
  .static yM_holds0,
  .code yM_holds0 cM_holds0 3 (some .boolean),
  .methodLink RM 169 yM_skipIf,
  .instanceMethod yM_skipIf,
  .code yM_skipIf cM_skipIf 2 none,
  .constantLong RM 152 (-34359738368),
  .constantLong RM 172 34359738367,
  .methodLink RM 133 yM_over,
  .instanceMethod yM_over,
  .code yM_over cM_over 2 none,
  .methodLink RM 123 yM_setAc,
  .instanceMethod yM_setAc,
  .code yM_setAc cM_setAc 4 none,
  .methodLink RM 174 yM_goIf,
  .instanceMethod yM_goIf,
  .code yM_goIf cM_goIf 3 none,
  .methodLink RM 127 yM_set,
  .instanceMethod yM_set,
  .code yM_set cM_set 5 none,
  .methodLink RM 102 yM_logic,
  .instanceMethod yM_logic,
  .code yM_logic cM_logic 13 none,
  .methodLink RM 130 yM_source,
  .instanceMethod yM_source,
  .code yM_source cM_source 3 (some .long),
  .methodLink RM 154 yM_keep,
  .instanceMethod yM_keep,
  .code yM_keep cM_keep 6 none,
  .methodLink RM 105 yM_halves,
  .instanceMethod yM_halves,
  .code yM_halves cM_halves 15 none,
  .methodLink RM 137 yM_left,
  .static yM_left,
  .code yM_left cM_left 2 (some .int),
  .constant RM 165 131071,
  .methodLink RM 73 yM_joined,
  .static yM_joined,
  .code yM_joined cM_joined 2 (some .long),
  .methodLink RM 142 yM_place,
  .instanceMethod yM_place,
  .code yM_place cM_place 6 none,
  .methodLink RM 108 yM_test,
  .instanceMethod yM_test,
  .code yM_test cM_test 17 none,
  .methodLink RM 111 yM_bytes,
  .instanceMethod yM_bytes,
  .code yM_bytes cM_bytes 16 none,
  .constantLong RM 178 63,
  .constantLong RM 180 4095,
  .constantLong RM 161 262143,
  .methodLink RM 114 yM_move,
  .instanceMethod yM_move,
  .code yM_move cM_move 11 none,
  .constantLong RM 140 68719476736,
  .methodLink RM 117 yM_sum,
  .instanceMethod yM_sum,
  .code yM_sum cM_sum 12 none,
  .methodLink RM 157 yM_multiply,
  .instanceMethod yM_multiply,
  .code yM_multiply cM_multiply 28 none,
  .constantLong RM 163 (-262144),
  .methodLink RM 120 yM_flow,
  .instanceMethod yM_flow,
  .code yM_flow cM_flow 8 none,
  .methodLink RM 182 yM_shift,
  .instanceMethod yM_shift,
  .code yM_shift cM_shift 13 none,
  .methodLink RM 185 yM_block,
  .instanceMethod yM_block,
  .code yM_block cM_block 6 none,
  .methodLink RM 188 yM_jump,
  .instanceMethod yM_jump,
  .code yM_jump cM_jump 3 none,
  .methodLink RM 192 yM_push,
  .instanceMethod yM_push,
  .code yM_push cM_push 7 none,
  .methodLink RM 198 yM_flags,
  .instanceMethod yM_flags,
  .code yM_flags cM_flags 1 (some .long),
  .methodLink RM 195 yM_pop,
  .instanceMethod yM_pop,
  .code yM_pop cM_pop 6 none,
  .instanceMethod yM_look,
  .code yM_look cM_look 2 (some .int),
  .selects RM yM_fail yM_fail,
  .selects RM yM_where yM_where,
  .selects RM yM_get yM_get,
  .selects RM yM_set yM_set,
  .selects RM yM_setAc yM_setAc,
  .selects RM yM_over yM_over,
  .selects RM yM_go yM_go,
  .selects RM yM_skipIf yM_skipIf,
  .selects RM yM_goIf yM_goIf,
  .selects RM yM_count yM_count,
  .selects RM yM_effective yM_effective,
  .selects RM yM_flags yM_flags,
  .selects RM yM_makeStep yM_makeStep,
  .selects RM yM_obey yM_obey,
  .selects RM yM_source yM_source,
  .selects RM yM_place yM_place,
  .selects RM yM_keep yM_keep,
  .selects RM yM_move yM_move,
  .selects RM yM_sum yM_sum,
  .selects RM yM_multiply yM_multiply,
  .selects RM yM_logic yM_logic,
  .selects RM yM_halves yM_halves,
  .selects RM yM_compare yM_compare,
  .selects RM yM_test yM_test,
  .selects RM yM_bytes yM_bytes,
  .selects RM yM_flow yM_flow,
  .selects RM yM_jump yM_jump,
  .selects RM yM_shift yM_shift,
  .selects RM yM_block yM_block,
  .selects RM yM_push yM_push,
  .selects RM yM_pop yM_pop,
  .selects RM yM_deposit yM_deposit,
  .selects RM yM_examine yM_examine,
  .selects RM yM_number yM_number,
  .selects RM yM_segment yM_segment,
  .selects RM yM_start yM_start,
  .selects RM yM_run yM_run,
  .selects RM yM_look yM_look]
theorem hiM : (.initialized RM : Cond) ∈ WM := List.mem_of_getElem? (i := 0) rfl
theorem hnO_init_M : (.instanceMethod objectInit : Cond) ∈ WM := List.mem_of_getElem? (i := 1) rfl
theorem hoO_init_M : (.code objectInit ⟨#[0xb1]⟩ 1 none : Cond) ∈ WM := List.mem_of_getElem? (i := 2) rfl
theorem haM_long : (.arrayClass .long : Cond) ∈ WM := List.mem_of_getElem? (i := 3) rfl
theorem hnM_init : (.instanceMethod yM_init : Cond) ∈ WM := List.mem_of_getElem? (i := 4) rfl
theorem hoM_init : (.code yM_init cM_init 1 none : Cond) ∈ WM := List.mem_of_getElem? (i := 5) rfl
theorem hmM_1 : (.methodLink RM 1 objectInit : Cond) ∈ WM := List.mem_of_getElem? (i := 6) rfl
theorem hfM_store : (.fieldLink RM 7 RM "store" "[J" : Cond) ∈ WM := List.mem_of_getElem? (i := 7) rfl
theorem hfM_base : (.fieldLink RM 13 RM "base" "[I" : Cond) ∈ WM := List.mem_of_getElem? (i := 8) rfl
theorem hfM_bound : (.fieldLink RM 17 RM "bound" "[I" : Cond) ∈ WM := List.mem_of_getElem? (i := 9) rfl
theorem hfM_user : (.fieldLink RM 31 RM "user" "Z" : Cond) ∈ WM := List.mem_of_getElem? (i := 10) rfl
theorem hfM_overflow : (.fieldLink RM 44 RM "overflow" "Z" : Cond) ∈ WM := List.mem_of_getElem? (i := 11) rfl
theorem hfM_stopped : (.fieldLink RM 202 RM "stopped" "Z" : Cond) ∈ WM := List.mem_of_getElem? (i := 12) rfl
theorem hfM_pc : (.fieldLink RM 47 RM "pc" "I" : Cond) ∈ WM := List.mem_of_getElem? (i := 13) rfl
theorem hfM_steps : (.fieldLink RM 81 RM "steps" "I" : Cond) ∈ WM := List.mem_of_getElem? (i := 14) rfl
theorem hfM_traps : (.fieldLink RM 93 RM "traps" "I" : Cond) ∈ WM := List.mem_of_getElem? (i := 15) rfl
theorem hfM_latest : (.fieldLink RM 96 RM "latest" "I" : Cond) ∈ WM := List.mem_of_getElem? (i := 16) rfl
theorem hfM_wrong : (.fieldLink RM 27 RM "wrong" "I" : Cond) ∈ WM := List.mem_of_getElem? (i := 17) rfl
theorem hfM_taken : (.fieldLink RM 53 RM "taken" "I" : Cond) ∈ WM := List.mem_of_getElem? (i := 18) rfl
theorem hlM_store : (.laysFinal RM RM "store" "[J" : Cond) ∈ WM := List.mem_of_getElem? (i := 19) rfl
theorem hlM_base : (.laysFinal RM RM "base" "[I" : Cond) ∈ WM := List.mem_of_getElem? (i := 20) rfl
theorem hlM_bound : (.laysFinal RM RM "bound" "[I" : Cond) ∈ WM := List.mem_of_getElem? (i := 21) rfl
theorem hlM_user : (.lays RM RM "user" "Z" : Cond) ∈ WM := List.mem_of_getElem? (i := 22) rfl
theorem hlM_overflow : (.lays RM RM "overflow" "Z" : Cond) ∈ WM := List.mem_of_getElem? (i := 23) rfl
theorem hlM_stopped : (.lays RM RM "stopped" "Z" : Cond) ∈ WM := List.mem_of_getElem? (i := 24) rfl
theorem hlM_pc : (.lays RM RM "pc" "I" : Cond) ∈ WM := List.mem_of_getElem? (i := 25) rfl
theorem hlM_steps : (.lays RM RM "steps" "I" : Cond) ∈ WM := List.mem_of_getElem? (i := 26) rfl
theorem hlM_traps : (.lays RM RM "traps" "I" : Cond) ∈ WM := List.mem_of_getElem? (i := 27) rfl
theorem hlM_latest : (.lays RM RM "latest" "I" : Cond) ∈ WM := List.mem_of_getElem? (i := 28) rfl
theorem hlM_wrong : (.lays RM RM "wrong" "I" : Cond) ∈ WM := List.mem_of_getElem? (i := 29) rfl
theorem hlM_taken : (.lays RM RM "taken" "I" : Cond) ∈ WM := List.mem_of_getElem? (i := 30) rfl
theorem haM_int : (.arrayClass .int : Cond) ∈ WM := List.mem_of_getElem? (i := 31) rfl
theorem hnM_deposit : (.instanceMethod yM_deposit : Cond) ∈ WM := List.mem_of_getElem? (i := 32) rfl
theorem hoM_deposit : (.code yM_deposit cM_deposit 4 (some .boolean) : Cond) ∈ WM := List.mem_of_getElem? (i := 33) rfl
theorem hkM_22 : (.constantLong RM 22 68719476735 : Cond) ∈ WM := List.mem_of_getElem? (i := 34) rfl
theorem hnM_examine : (.instanceMethod yM_examine : Cond) ∈ WM := List.mem_of_getElem? (i := 35) rfl
theorem hoM_examine : (.code yM_examine cM_examine 2 (some .long) : Cond) ∈ WM := List.mem_of_getElem? (i := 36) rfl
theorem hkM_150 : (.constantLong RM 150 (-1) : Cond) ∈ WM := List.mem_of_getElem? (i := 37) rfl
theorem hnM_number : (.instanceMethod yM_number : Cond) ∈ WM := List.mem_of_getElem? (i := 38) rfl
theorem hoM_number : (.code yM_number cM_number 2 (some .long) : Cond) ∈ WM := List.mem_of_getElem? (i := 39) rfl
theorem hmM_146 : (.methodLink RM 146 yM_num : Cond) ∈ WM := List.mem_of_getElem? (i := 40) rfl
theorem hsM_num : (.static yM_num : Cond) ∈ WM := List.mem_of_getElem? (i := 41) rfl
theorem hoM_num : (.code yM_num cM_num 2 (some .long) : Cond) ∈ WM := List.mem_of_getElem? (i := 42) rfl
theorem hkM_20 : (.constantLong RM 20 34359738368 : Cond) ∈ WM := List.mem_of_getElem? (i := 43) rfl
theorem hnM_segment : (.instanceMethod yM_segment : Cond) ∈ WM := List.mem_of_getElem? (i := 44) rfl
theorem hoM_segment : (.code yM_segment cM_segment 4 (some .boolean) : Cond) ∈ WM := List.mem_of_getElem? (i := 45) rfl
theorem hnM_start : (.instanceMethod yM_start : Cond) ∈ WM := List.mem_of_getElem? (i := 46) rfl
theorem hoM_start : (.code yM_start cM_start 3 none : Cond) ∈ WM := List.mem_of_getElem? (i := 47) rfl
theorem hkM_26 : (.constant RM 26 262143 : Cond) ∈ WM := List.mem_of_getElem? (i := 48) rfl
theorem hnM_run : (.instanceMethod yM_run : Cond) ∈ WM := List.mem_of_getElem? (i := 49) rfl
theorem hoM_run : (.code yM_run cM_run 3 (some .int) : Cond) ∈ WM := List.mem_of_getElem? (i := 50) rfl
theorem hmM_205 : (.methodLink RM 205 yM_makeStep : Cond) ∈ WM := List.mem_of_getElem? (i := 51) rfl
theorem hnM_makeStep : (.instanceMethod yM_makeStep : Cond) ∈ WM := List.mem_of_getElem? (i := 52) rfl
theorem hoM_makeStep : (.code yM_makeStep cM_makeStep 5 none : Cond) ∈ WM := List.mem_of_getElem? (i := 53) rfl
theorem hmM_58 : (.methodLink RM 58 yM_get : Cond) ∈ WM := List.mem_of_getElem? (i := 54) rfl
theorem hnM_get : (.instanceMethod yM_get : Cond) ∈ WM := List.mem_of_getElem? (i := 55) rfl
theorem hoM_get : (.code yM_get cM_get 3 (some .long) : Cond) ∈ WM := List.mem_of_getElem? (i := 56) rfl
theorem hmM_40 : (.methodLink RM 40 yM_where : Cond) ∈ WM := List.mem_of_getElem? (i := 57) rfl
theorem hnM_where : (.instanceMethod yM_where : Cond) ∈ WM := List.mem_of_getElem? (i := 58) rfl
theorem hoM_where : (.code yM_where cM_where 5 (some .int) : Cond) ∈ WM := List.mem_of_getElem? (i := 59) rfl
theorem hkM_35 : (.constant RM 35 131072 : Cond) ∈ WM := List.mem_of_getElem? (i := 60) rfl
theorem hmM_36 : (.methodLink RM 36 yM_fail : Cond) ∈ WM := List.mem_of_getElem? (i := 61) rfl
theorem hnM_fail : (.instanceMethod yM_fail : Cond) ∈ WM := List.mem_of_getElem? (i := 62) rfl
theorem hoM_fail : (.code yM_fail cM_fail 2 none : Cond) ∈ WM := List.mem_of_getElem? (i := 63) rfl
theorem hmM_50 : (.methodLink RM 50 yM_go : Cond) ∈ WM := List.mem_of_getElem? (i := 64) rfl
theorem hnM_go : (.instanceMethod yM_go : Cond) ∈ WM := List.mem_of_getElem? (i := 65) rfl
theorem hoM_go : (.code yM_go cM_go 2 none : Cond) ∈ WM := List.mem_of_getElem? (i := 66) rfl
theorem hmM_84 : (.methodLink RM 84 yM_effective : Cond) ∈ WM := List.mem_of_getElem? (i := 67) rfl
theorem hnM_effective : (.instanceMethod yM_effective : Cond) ∈ WM := List.mem_of_getElem? (i := 68) rfl
theorem hoM_effective : (.code yM_effective cM_effective 9 (some .int) : Cond) ∈ WM := List.mem_of_getElem? (i := 69) rfl
theorem hkM_56 : (.constantLong RM 56 15 : Cond) ∈ WM := List.mem_of_getElem? (i := 70) rfl
theorem hmM_62 : (.methodLink RM 62 yM_right : Cond) ∈ WM := List.mem_of_getElem? (i := 71) rfl
theorem hsM_right : (.static yM_right : Cond) ∈ WM := List.mem_of_getElem? (i := 72) rfl
theorem hoM_right : (.code yM_right cM_right 2 (some .int) : Cond) ∈ WM := List.mem_of_getElem? (i := 73) rfl
theorem hkM_24 : (.constantLong RM 24 262144 : Cond) ∈ WM := List.mem_of_getElem? (i := 74) rfl
theorem hmM_66 : (.methodLink RM 66 yM_bit : Cond) ∈ WM := List.mem_of_getElem? (i := 75) rfl
theorem hsM_bit : (.static yM_bit : Cond) ∈ WM := List.mem_of_getElem? (i := 76) rfl
theorem hoM_bit : (.code yM_bit cM_bit 3 (some .int) : Cond) ∈ WM := List.mem_of_getElem? (i := 77) rfl
theorem hmM_70 : (.methodLink RM 70 yM_count : Cond) ∈ WM := List.mem_of_getElem? (i := 78) rfl
theorem hnM_count : (.instanceMethod yM_count : Cond) ∈ WM := List.mem_of_getElem? (i := 79) rfl
theorem hoM_count : (.code yM_count cM_count 1 none : Cond) ∈ WM := List.mem_of_getElem? (i := 80) rfl
theorem hkM_87 : (.constantLong RM 87 174 : Cond) ∈ WM := List.mem_of_getElem? (i := 81) rfl
theorem hmM_89 : (.methodLink RM 89 yM_obey : Cond) ∈ WM := List.mem_of_getElem? (i := 82) rfl
theorem hnM_obey : (.instanceMethod yM_obey : Cond) ∈ WM := List.mem_of_getElem? (i := 83) rfl
theorem hoM_obey : (.code yM_obey cM_obey 5 none : Cond) ∈ WM := List.mem_of_getElem? (i := 84) rfl
theorem hmM_99 : (.methodLink RM 99 yM_compare : Cond) ∈ WM := List.mem_of_getElem? (i := 85) rfl
theorem hnM_compare : (.instanceMethod yM_compare : Cond) ∈ WM := List.mem_of_getElem? (i := 86) rfl
theorem hoM_compare : (.code yM_compare cM_compare 12 none : Cond) ∈ WM := List.mem_of_getElem? (i := 87) rfl
theorem hmM_166 : (.methodLink RM 166 yM_holds : Cond) ∈ WM := List.mem_of_getElem? (i := 88) rfl
theorem hsM_holds : (.static yM_holds : Cond) ∈ WM := List.mem_of_getElem? (i := 89) rfl
theorem hoM_holds : (.code yM_holds cM_holds 3 (some .boolean) : Cond) ∈ WM := List.mem_of_getElem? (i := 90) rfl
theorem hmM_77 : (.methodLink RM 77 yM_holds0 : Cond) ∈ WM := List.mem_of_getElem? (i := 91) rfl
theorem hsM_holds0 : (.static yM_holds0 : Cond) ∈ WM := List.mem_of_getElem? (i := 92) rfl
theorem hoM_holds0 : (.code yM_holds0 cM_holds0 3 (some .boolean) : Cond) ∈ WM := List.mem_of_getElem? (i := 93) rfl
theorem hmM_169 : (.methodLink RM 169 yM_skipIf : Cond) ∈ WM := List.mem_of_getElem? (i := 94) rfl
theorem hnM_skipIf : (.instanceMethod yM_skipIf : Cond) ∈ WM := List.mem_of_getElem? (i := 95) rfl
theorem hoM_skipIf : (.code yM_skipIf cM_skipIf 2 none : Cond) ∈ WM := List.mem_of_getElem? (i := 96) rfl
theorem hkM_152 : (.constantLong RM 152 (-34359738368) : Cond) ∈ WM := List.mem_of_getElem? (i := 97) rfl
theorem hkM_172 : (.constantLong RM 172 34359738367 : Cond) ∈ WM := List.mem_of_getElem? (i := 98) rfl
theorem hmM_133 : (.methodLink RM 133 yM_over : Cond) ∈ WM := List.mem_of_getElem? (i := 99) rfl
theorem hnM_over : (.instanceMethod yM_over : Cond) ∈ WM := List.mem_of_getElem? (i := 100) rfl
theorem hoM_over : (.code yM_over cM_over 2 none : Cond) ∈ WM := List.mem_of_getElem? (i := 101) rfl
theorem hmM_123 : (.methodLink RM 123 yM_setAc : Cond) ∈ WM := List.mem_of_getElem? (i := 102) rfl
theorem hnM_setAc : (.instanceMethod yM_setAc : Cond) ∈ WM := List.mem_of_getElem? (i := 103) rfl
theorem hoM_setAc : (.code yM_setAc cM_setAc 4 none : Cond) ∈ WM := List.mem_of_getElem? (i := 104) rfl
theorem hmM_174 : (.methodLink RM 174 yM_goIf : Cond) ∈ WM := List.mem_of_getElem? (i := 105) rfl
theorem hnM_goIf : (.instanceMethod yM_goIf : Cond) ∈ WM := List.mem_of_getElem? (i := 106) rfl
theorem hoM_goIf : (.code yM_goIf cM_goIf 3 none : Cond) ∈ WM := List.mem_of_getElem? (i := 107) rfl
theorem hmM_127 : (.methodLink RM 127 yM_set : Cond) ∈ WM := List.mem_of_getElem? (i := 108) rfl
theorem hnM_set : (.instanceMethod yM_set : Cond) ∈ WM := List.mem_of_getElem? (i := 109) rfl
theorem hoM_set : (.code yM_set cM_set 5 none : Cond) ∈ WM := List.mem_of_getElem? (i := 110) rfl
theorem hmM_102 : (.methodLink RM 102 yM_logic : Cond) ∈ WM := List.mem_of_getElem? (i := 111) rfl
theorem hnM_logic : (.instanceMethod yM_logic : Cond) ∈ WM := List.mem_of_getElem? (i := 112) rfl
theorem hoM_logic : (.code yM_logic cM_logic 13 none : Cond) ∈ WM := List.mem_of_getElem? (i := 113) rfl
theorem hmM_130 : (.methodLink RM 130 yM_source : Cond) ∈ WM := List.mem_of_getElem? (i := 114) rfl
theorem hnM_source : (.instanceMethod yM_source : Cond) ∈ WM := List.mem_of_getElem? (i := 115) rfl
theorem hoM_source : (.code yM_source cM_source 3 (some .long) : Cond) ∈ WM := List.mem_of_getElem? (i := 116) rfl
theorem hmM_154 : (.methodLink RM 154 yM_keep : Cond) ∈ WM := List.mem_of_getElem? (i := 117) rfl
theorem hnM_keep : (.instanceMethod yM_keep : Cond) ∈ WM := List.mem_of_getElem? (i := 118) rfl
theorem hoM_keep : (.code yM_keep cM_keep 6 none : Cond) ∈ WM := List.mem_of_getElem? (i := 119) rfl
theorem hmM_105 : (.methodLink RM 105 yM_halves : Cond) ∈ WM := List.mem_of_getElem? (i := 120) rfl
theorem hnM_halves : (.instanceMethod yM_halves : Cond) ∈ WM := List.mem_of_getElem? (i := 121) rfl
theorem hoM_halves : (.code yM_halves cM_halves 15 none : Cond) ∈ WM := List.mem_of_getElem? (i := 122) rfl
theorem hmM_137 : (.methodLink RM 137 yM_left : Cond) ∈ WM := List.mem_of_getElem? (i := 123) rfl
theorem hsM_left : (.static yM_left : Cond) ∈ WM := List.mem_of_getElem? (i := 124) rfl
theorem hoM_left : (.code yM_left cM_left 2 (some .int) : Cond) ∈ WM := List.mem_of_getElem? (i := 125) rfl
theorem hkM_165 : (.constant RM 165 131071 : Cond) ∈ WM := List.mem_of_getElem? (i := 126) rfl
theorem hmM_73 : (.methodLink RM 73 yM_joined : Cond) ∈ WM := List.mem_of_getElem? (i := 127) rfl
theorem hsM_joined : (.static yM_joined : Cond) ∈ WM := List.mem_of_getElem? (i := 128) rfl
theorem hoM_joined : (.code yM_joined cM_joined 2 (some .long) : Cond) ∈ WM := List.mem_of_getElem? (i := 129) rfl
theorem hmM_142 : (.methodLink RM 142 yM_place : Cond) ∈ WM := List.mem_of_getElem? (i := 130) rfl
theorem hnM_place : (.instanceMethod yM_place : Cond) ∈ WM := List.mem_of_getElem? (i := 131) rfl
theorem hoM_place : (.code yM_place cM_place 6 none : Cond) ∈ WM := List.mem_of_getElem? (i := 132) rfl
theorem hmM_108 : (.methodLink RM 108 yM_test : Cond) ∈ WM := List.mem_of_getElem? (i := 133) rfl
theorem hnM_test : (.instanceMethod yM_test : Cond) ∈ WM := List.mem_of_getElem? (i := 134) rfl
theorem hoM_test : (.code yM_test cM_test 17 none : Cond) ∈ WM := List.mem_of_getElem? (i := 135) rfl
theorem hmM_111 : (.methodLink RM 111 yM_bytes : Cond) ∈ WM := List.mem_of_getElem? (i := 136) rfl
theorem hnM_bytes : (.instanceMethod yM_bytes : Cond) ∈ WM := List.mem_of_getElem? (i := 137) rfl
theorem hoM_bytes : (.code yM_bytes cM_bytes 16 none : Cond) ∈ WM := List.mem_of_getElem? (i := 138) rfl
theorem hkM_178 : (.constantLong RM 178 63 : Cond) ∈ WM := List.mem_of_getElem? (i := 139) rfl
theorem hkM_180 : (.constantLong RM 180 4095 : Cond) ∈ WM := List.mem_of_getElem? (i := 140) rfl
theorem hkM_161 : (.constantLong RM 161 262143 : Cond) ∈ WM := List.mem_of_getElem? (i := 141) rfl
theorem hmM_114 : (.methodLink RM 114 yM_move : Cond) ∈ WM := List.mem_of_getElem? (i := 142) rfl
theorem hnM_move : (.instanceMethod yM_move : Cond) ∈ WM := List.mem_of_getElem? (i := 143) rfl
theorem hoM_move : (.code yM_move cM_move 11 none : Cond) ∈ WM := List.mem_of_getElem? (i := 144) rfl
theorem hkM_140 : (.constantLong RM 140 68719476736 : Cond) ∈ WM := List.mem_of_getElem? (i := 145) rfl
theorem hmM_117 : (.methodLink RM 117 yM_sum : Cond) ∈ WM := List.mem_of_getElem? (i := 146) rfl
theorem hnM_sum : (.instanceMethod yM_sum : Cond) ∈ WM := List.mem_of_getElem? (i := 147) rfl
theorem hoM_sum : (.code yM_sum cM_sum 12 none : Cond) ∈ WM := List.mem_of_getElem? (i := 148) rfl
theorem hmM_157 : (.methodLink RM 157 yM_multiply : Cond) ∈ WM := List.mem_of_getElem? (i := 149) rfl
theorem hnM_multiply : (.instanceMethod yM_multiply : Cond) ∈ WM := List.mem_of_getElem? (i := 150) rfl
theorem hoM_multiply : (.code yM_multiply cM_multiply 28 none : Cond) ∈ WM := List.mem_of_getElem? (i := 151) rfl
theorem hkM_163 : (.constantLong RM 163 (-262144) : Cond) ∈ WM := List.mem_of_getElem? (i := 152) rfl
theorem hmM_120 : (.methodLink RM 120 yM_flow : Cond) ∈ WM := List.mem_of_getElem? (i := 153) rfl
theorem hnM_flow : (.instanceMethod yM_flow : Cond) ∈ WM := List.mem_of_getElem? (i := 154) rfl
theorem hoM_flow : (.code yM_flow cM_flow 8 none : Cond) ∈ WM := List.mem_of_getElem? (i := 155) rfl
theorem hmM_182 : (.methodLink RM 182 yM_shift : Cond) ∈ WM := List.mem_of_getElem? (i := 156) rfl
theorem hnM_shift : (.instanceMethod yM_shift : Cond) ∈ WM := List.mem_of_getElem? (i := 157) rfl
theorem hoM_shift : (.code yM_shift cM_shift 13 none : Cond) ∈ WM := List.mem_of_getElem? (i := 158) rfl
theorem hmM_185 : (.methodLink RM 185 yM_block : Cond) ∈ WM := List.mem_of_getElem? (i := 159) rfl
theorem hnM_block : (.instanceMethod yM_block : Cond) ∈ WM := List.mem_of_getElem? (i := 160) rfl
theorem hoM_block : (.code yM_block cM_block 6 none : Cond) ∈ WM := List.mem_of_getElem? (i := 161) rfl
theorem hmM_188 : (.methodLink RM 188 yM_jump : Cond) ∈ WM := List.mem_of_getElem? (i := 162) rfl
theorem hnM_jump : (.instanceMethod yM_jump : Cond) ∈ WM := List.mem_of_getElem? (i := 163) rfl
theorem hoM_jump : (.code yM_jump cM_jump 3 none : Cond) ∈ WM := List.mem_of_getElem? (i := 164) rfl
theorem hmM_192 : (.methodLink RM 192 yM_push : Cond) ∈ WM := List.mem_of_getElem? (i := 165) rfl
theorem hnM_push : (.instanceMethod yM_push : Cond) ∈ WM := List.mem_of_getElem? (i := 166) rfl
theorem hoM_push : (.code yM_push cM_push 7 none : Cond) ∈ WM := List.mem_of_getElem? (i := 167) rfl
theorem hmM_198 : (.methodLink RM 198 yM_flags : Cond) ∈ WM := List.mem_of_getElem? (i := 168) rfl
theorem hnM_flags : (.instanceMethod yM_flags : Cond) ∈ WM := List.mem_of_getElem? (i := 169) rfl
theorem hoM_flags : (.code yM_flags cM_flags 1 (some .long) : Cond) ∈ WM := List.mem_of_getElem? (i := 170) rfl
theorem hmM_195 : (.methodLink RM 195 yM_pop : Cond) ∈ WM := List.mem_of_getElem? (i := 171) rfl
theorem hnM_pop : (.instanceMethod yM_pop : Cond) ∈ WM := List.mem_of_getElem? (i := 172) rfl
theorem hoM_pop : (.code yM_pop cM_pop 6 none : Cond) ∈ WM := List.mem_of_getElem? (i := 173) rfl
theorem hnM_look : (.instanceMethod yM_look : Cond) ∈ WM := List.mem_of_getElem? (i := 174) rfl
theorem hoM_look : (.code yM_look cM_look 2 (some .int) : Cond) ∈ WM := List.mem_of_getElem? (i := 175) rfl
theorem hvM_fail : (.selects RM yM_fail yM_fail : Cond) ∈ WM := List.mem_of_getElem? (i := 176) rfl
theorem hvM_where : (.selects RM yM_where yM_where : Cond) ∈ WM := List.mem_of_getElem? (i := 177) rfl
theorem hvM_get : (.selects RM yM_get yM_get : Cond) ∈ WM := List.mem_of_getElem? (i := 178) rfl
theorem hvM_set : (.selects RM yM_set yM_set : Cond) ∈ WM := List.mem_of_getElem? (i := 179) rfl
theorem hvM_setAc : (.selects RM yM_setAc yM_setAc : Cond) ∈ WM := List.mem_of_getElem? (i := 180) rfl
theorem hvM_over : (.selects RM yM_over yM_over : Cond) ∈ WM := List.mem_of_getElem? (i := 181) rfl
theorem hvM_go : (.selects RM yM_go yM_go : Cond) ∈ WM := List.mem_of_getElem? (i := 182) rfl
theorem hvM_skipIf : (.selects RM yM_skipIf yM_skipIf : Cond) ∈ WM := List.mem_of_getElem? (i := 183) rfl
theorem hvM_goIf : (.selects RM yM_goIf yM_goIf : Cond) ∈ WM := List.mem_of_getElem? (i := 184) rfl
theorem hvM_count : (.selects RM yM_count yM_count : Cond) ∈ WM := List.mem_of_getElem? (i := 185) rfl
theorem hvM_effective : (.selects RM yM_effective yM_effective : Cond) ∈ WM := List.mem_of_getElem? (i := 186) rfl
theorem hvM_flags : (.selects RM yM_flags yM_flags : Cond) ∈ WM := List.mem_of_getElem? (i := 187) rfl
theorem hvM_makeStep : (.selects RM yM_makeStep yM_makeStep : Cond) ∈ WM := List.mem_of_getElem? (i := 188) rfl
theorem hvM_obey : (.selects RM yM_obey yM_obey : Cond) ∈ WM := List.mem_of_getElem? (i := 189) rfl
theorem hvM_source : (.selects RM yM_source yM_source : Cond) ∈ WM := List.mem_of_getElem? (i := 190) rfl
theorem hvM_place : (.selects RM yM_place yM_place : Cond) ∈ WM := List.mem_of_getElem? (i := 191) rfl
theorem hvM_keep : (.selects RM yM_keep yM_keep : Cond) ∈ WM := List.mem_of_getElem? (i := 192) rfl
theorem hvM_move : (.selects RM yM_move yM_move : Cond) ∈ WM := List.mem_of_getElem? (i := 193) rfl
theorem hvM_sum : (.selects RM yM_sum yM_sum : Cond) ∈ WM := List.mem_of_getElem? (i := 194) rfl
theorem hvM_multiply : (.selects RM yM_multiply yM_multiply : Cond) ∈ WM := List.mem_of_getElem? (i := 195) rfl
theorem hvM_logic : (.selects RM yM_logic yM_logic : Cond) ∈ WM := List.mem_of_getElem? (i := 196) rfl
theorem hvM_halves : (.selects RM yM_halves yM_halves : Cond) ∈ WM := List.mem_of_getElem? (i := 197) rfl
theorem hvM_compare : (.selects RM yM_compare yM_compare : Cond) ∈ WM := List.mem_of_getElem? (i := 198) rfl
theorem hvM_test : (.selects RM yM_test yM_test : Cond) ∈ WM := List.mem_of_getElem? (i := 199) rfl
theorem hvM_bytes : (.selects RM yM_bytes yM_bytes : Cond) ∈ WM := List.mem_of_getElem? (i := 200) rfl
theorem hvM_flow : (.selects RM yM_flow yM_flow : Cond) ∈ WM := List.mem_of_getElem? (i := 201) rfl
theorem hvM_jump : (.selects RM yM_jump yM_jump : Cond) ∈ WM := List.mem_of_getElem? (i := 202) rfl
theorem hvM_shift : (.selects RM yM_shift yM_shift : Cond) ∈ WM := List.mem_of_getElem? (i := 203) rfl
theorem hvM_block : (.selects RM yM_block yM_block : Cond) ∈ WM := List.mem_of_getElem? (i := 204) rfl
theorem hvM_push : (.selects RM yM_push yM_push : Cond) ∈ WM := List.mem_of_getElem? (i := 205) rfl
theorem hvM_pop : (.selects RM yM_pop yM_pop : Cond) ∈ WM := List.mem_of_getElem? (i := 206) rfl
theorem hvM_deposit : (.selects RM yM_deposit yM_deposit : Cond) ∈ WM := List.mem_of_getElem? (i := 207) rfl
theorem hvM_examine : (.selects RM yM_examine yM_examine : Cond) ∈ WM := List.mem_of_getElem? (i := 208) rfl
theorem hvM_number : (.selects RM yM_number yM_number : Cond) ∈ WM := List.mem_of_getElem? (i := 209) rfl
theorem hvM_segment : (.selects RM yM_segment yM_segment : Cond) ∈ WM := List.mem_of_getElem? (i := 210) rfl
theorem hvM_start : (.selects RM yM_start yM_start : Cond) ∈ WM := List.mem_of_getElem? (i := 211) rfl
theorem hvM_run : (.selects RM yM_run yM_run : Cond) ∈ WM := List.mem_of_getElem? (i := 212) rfl
theorem hvM_look : (.selects RM yM_look yM_look : Cond) ∈ WM := List.mem_of_getElem? (i := 213) rfl
set_option maxRecDepth 100000 in
theorem goodM : GoodIn WM WM := goodIn_sub (fun _ h => h) (by decide +kernel)
set_option maxRecDepth 100000 in
theorem inM : ∀ w ∈ u_ws RM TM 12, w ∈ WM := by decide +kernel
abbrev wX_init : List Cond := Cond.code yX_init cX_init 1 none :: WX
abbrev wX_deposit : List Cond := Cond.code yX_deposit cX_deposit 4 (some .boolean) :: WX
abbrev wX_examine : List Cond := Cond.code yX_examine cX_examine 2 (some .long) :: WX
abbrev wX_number : List Cond := Cond.code yX_number cX_number 2 (some .long) :: WX
abbrev wX_segment : List Cond := Cond.code yX_segment cX_segment 4 (some .boolean) :: WX
abbrev wX_start : List Cond := Cond.code yX_start cX_start 3 none :: WX
abbrev wX_run : List Cond := Cond.code yX_run cX_run 3 (some .int) :: WX
abbrev wX_look : List Cond := Cond.code yX_look cX_look 2 (some .int) :: WX
abbrev wX_step : List Cond := Cond.code yX_step cX_step 6 none :: WX
abbrev wX_enterTrap : List Cond := Cond.code yX_enterTrap cX_enterTrap 2 none :: WX
abbrev wX_raise : List Cond := Cond.code yX_raise cX_raise 2 none :: WX
abbrev wX_flags : List Cond := Cond.code yX_flags cX_flags 1 (some .int) :: WX
abbrev wX_pcWord : List Cond := Cond.code yX_pcWord cX_pcWord 1 (some .long) :: WX
abbrev wX_carryOut : List Cond := Cond.code yX_carryOut cX_carryOut 4 none :: WX
abbrev wX_isPlace : List Cond := Cond.code yX_isPlace cX_isPlace 1 (some .boolean) :: WX
abbrev wX_isExtent : List Cond := Cond.code yX_isExtent cX_isExtent 1 (some .boolean) :: WX
abbrev wX_placeOf : List Cond := Cond.code yX_placeOf cX_placeOf 3 (some .int) :: WX
abbrev wX_read : List Cond := Cond.code yX_read cX_read 3 (some .long) :: WX
abbrev wX_write : List Cond := Cond.code yX_write cX_write 5 none :: WX
abbrev wX_setAccumulator : List Cond := Cond.code yX_setAccumulator cX_setAccumulator 4 none :: WX
abbrev wX_setAccumulatorButZero : List Cond := Cond.code yX_setAccumulatorButZero cX_setAccumulatorButZero 4 none :: WX
abbrev wX_setOverflow : List Cond := Cond.code yX_setOverflow cX_setOverflow 1 none :: WX
abbrev wX_effective : List Cond := Cond.code yX_effective cX_effective 7 (some .int) :: WX
abbrev wX_take : List Cond := Cond.code yX_take cX_take 2 (some .long) :: WX
abbrev wX_indexed : List Cond := Cond.code yX_indexed cX_indexed 5 (some .int) :: WX
abbrev wX_isIndirect : List Cond := Cond.code yX_isIndirect cX_isIndirect 2 (some .boolean) :: WX
abbrev wX_operation : List Cond := Cond.code yX_operation cX_operation 2 (some .int) :: WX
abbrev wX_accumulator : List Cond := Cond.code yX_accumulator cX_accumulator 2 (some .int) :: WX
abbrev wX_wrapped : List Cond := Cond.code yX_wrapped cX_wrapped 1 (some .int) :: WX
abbrev wX_skipIf : List Cond := Cond.code yX_skipIf cX_skipIf 2 none :: WX
abbrev wX_jumpIf : List Cond := Cond.code yX_jumpIf cX_jumpIf 3 none :: WX
abbrev wX_left : List Cond := Cond.code yX_left cX_left 2 (some .int) :: WX
abbrev wX_right : List Cond := Cond.code yX_right cX_right 2 (some .int) :: WX
abbrev wX_joined : List Cond := Cond.code yX_joined cX_joined 2 (some .long) :: WX
abbrev wX_swapped : List Cond := Cond.code yX_swapped cX_swapped 2 (some .long) :: WX
abbrev wX_signed : List Cond := Cond.code yX_signed cX_signed 2 (some .long) :: WX
abbrev wX_fitted : List Cond := Cond.code yX_fitted cX_fitted 5 (some .long) :: WX
abbrev wX_source : List Cond := Cond.code yX_source cX_source 3 (some .long) :: WX
abbrev wX_movedSource : List Cond := Cond.code yX_movedSource cX_movedSource 4 (some .long) :: WX
abbrev wX_putMoved : List Cond := Cond.code yX_putMoved cX_putMoved 6 none :: WX
abbrev wX_putResult : List Cond := Cond.code yX_putResult cX_putResult 6 none :: WX
abbrev wX_move : List Cond := Cond.code yX_move cX_move 7 none :: WX
abbrev wX_changedToMove : List Cond := Cond.code yX_changedToMove cX_changedToMove 4 (some .long) :: WX
abbrev wX_sum : List Cond := Cond.code yX_sum cX_sum 10 none :: WX
abbrev wX_multiply : List Cond := Cond.code yX_multiply cX_multiply 9 none :: WX
abbrev wX_productFits : List Cond := Cond.code yX_productFits cX_productFits 6 (some .boolean) :: WX
abbrev wX_divide : List Cond := Cond.code yX_divide cX_divide 9 none :: WX
abbrev wX_logic : List Cond := Cond.code yX_logic cX_logic 12 none :: WX
abbrev wX_halves : List Cond := Cond.code yX_halves cX_halves 13 none :: WX
abbrev wX_otherHalf : List Cond := Cond.code yX_otherHalf cX_otherHalf 3 (some .int) :: WX
abbrev wX_test : List Cond := Cond.code yX_test cX_test 8 none :: WX
abbrev wX_testSkips : List Cond := Cond.code yX_testSkips cX_testSkips 3 (some .boolean) :: WX
abbrev wX_maskedChange : List Cond := Cond.code yX_maskedChange cX_maskedChange 5 (some .long) :: WX
abbrev wX_holds : List Cond := Cond.code yX_holds cX_holds 3 (some .boolean) :: WX
abbrev wX_compare : List Cond := Cond.code yX_compare cX_compare 7 none :: WX
abbrev wX_skipOnWord : List Cond := Cond.code yX_skipOnWord cX_skipOnWord 5 none :: WX
abbrev wX_countAndJump : List Cond := Cond.code yX_countAndJump cX_countAndJump 7 none :: WX
abbrev wX_countAndSkip : List Cond := Cond.code yX_countAndSkip cX_countAndSkip 7 none :: WX
abbrev wX_shift : List Cond := Cond.code yX_shift cX_shift 5 none :: WX
abbrev wX_shiftedAsNumber : List Cond := Cond.code yX_shiftedAsNumber cX_shiftedAsNumber 7 (some .long) :: WX
abbrev wX_rotated : List Cond := Cond.code yX_rotated cX_rotated 4 (some .long) :: WX
abbrev wX_shiftedAsBits : List Cond := Cond.code yX_shiftedAsBits cX_shiftedAsBits 3 (some .long) :: WX
abbrev wX_exchangeOrJump : List Cond := Cond.code yX_exchangeOrJump cX_exchangeOrJump 4 none :: WX
abbrev wX_exchange : List Cond := Cond.code yX_exchange cX_exchange 5 none :: WX
abbrev wX_block : List Cond := Cond.code yX_block cX_block 7 none :: WX
abbrev wX_jumpByAccumulator : List Cond := Cond.code yX_jumpByAccumulator cX_jumpByAccumulator 3 none :: WX
abbrev wX_moveHalves : List Cond := Cond.code yX_moveHalves cX_moveHalves 5 none :: WX
abbrev wX_growStack : List Cond := Cond.code yX_growStack cX_growStack 2 none :: WX
abbrev wX_shrinkStack : List Cond := Cond.code yX_shrinkStack cX_shrinkStack 2 none :: WX
abbrev wX_stack : List Cond := Cond.code yX_stack cX_stack 4 none :: WX
abbrev wX_bytes : List Cond := Cond.code yX_bytes cX_bytes 7 none :: WX
abbrev wX_position : List Cond := Cond.code yX_position cX_position 2 (some .int) :: WX
abbrev wX_size : List Cond := Cond.code yX_size cX_size 2 (some .int) :: WX
abbrev wX_byteMask : List Cond := Cond.code yX_byteMask cX_byteMask 2 (some .long) :: WX
abbrev wX_advancePointer : List Cond := Cond.code yX_advancePointer cX_advancePointer 7 none :: WX
abbrev wX_loadByte : List Cond := Cond.code yX_loadByte cX_loadByte 7 none :: WX
abbrev wX_depositByte : List Cond := Cond.code yX_depositByte cX_depositByte 9 none :: WX
abbrev wM_init : List Cond := Cond.code yM_init cM_init 1 none :: WM
abbrev wM_num : List Cond := Cond.code yM_num cM_num 2 (some .long) :: WM
abbrev wM_left : List Cond := Cond.code yM_left cM_left 2 (some .int) :: WM
abbrev wM_right : List Cond := Cond.code yM_right cM_right 2 (some .int) :: WM
abbrev wM_joined : List Cond := Cond.code yM_joined cM_joined 2 (some .long) :: WM
abbrev wM_bit : List Cond := Cond.code yM_bit cM_bit 3 (some .int) :: WM
abbrev wM_fail : List Cond := Cond.code yM_fail cM_fail 2 none :: WM
abbrev wM_where : List Cond := Cond.code yM_where cM_where 5 (some .int) :: WM
abbrev wM_get : List Cond := Cond.code yM_get cM_get 3 (some .long) :: WM
abbrev wM_set : List Cond := Cond.code yM_set cM_set 5 none :: WM
abbrev wM_setAc : List Cond := Cond.code yM_setAc cM_setAc 4 none :: WM
abbrev wM_over : List Cond := Cond.code yM_over cM_over 2 none :: WM
abbrev wM_go : List Cond := Cond.code yM_go cM_go 2 none :: WM
abbrev wM_skipIf : List Cond := Cond.code yM_skipIf cM_skipIf 2 none :: WM
abbrev wM_goIf : List Cond := Cond.code yM_goIf cM_goIf 3 none :: WM
abbrev wM_count : List Cond := Cond.code yM_count cM_count 1 none :: WM
abbrev wM_effective : List Cond := Cond.code yM_effective cM_effective 9 (some .int) :: WM
abbrev wM_flags : List Cond := Cond.code yM_flags cM_flags 1 (some .long) :: WM
abbrev wM_holds : List Cond := Cond.code yM_holds cM_holds 3 (some .boolean) :: WM
abbrev wM_holds0 : List Cond := Cond.code yM_holds0 cM_holds0 3 (some .boolean) :: WM
abbrev wM_makeStep : List Cond := Cond.code yM_makeStep cM_makeStep 5 none :: WM
abbrev wM_obey : List Cond := Cond.code yM_obey cM_obey 5 none :: WM
abbrev wM_source : List Cond := Cond.code yM_source cM_source 3 (some .long) :: WM
abbrev wM_place : List Cond := Cond.code yM_place cM_place 6 none :: WM
abbrev wM_keep : List Cond := Cond.code yM_keep cM_keep 6 none :: WM
abbrev wM_move : List Cond := Cond.code yM_move cM_move 11 none :: WM
abbrev wM_sum : List Cond := Cond.code yM_sum cM_sum 12 none :: WM
abbrev wM_multiply : List Cond := Cond.code yM_multiply cM_multiply 28 none :: WM
abbrev wM_logic : List Cond := Cond.code yM_logic cM_logic 13 none :: WM
abbrev wM_halves : List Cond := Cond.code yM_halves cM_halves 15 none :: WM
abbrev wM_compare : List Cond := Cond.code yM_compare cM_compare 12 none :: WM
abbrev wM_test : List Cond := Cond.code yM_test cM_test 17 none :: WM
abbrev wM_bytes : List Cond := Cond.code yM_bytes cM_bytes 16 none :: WM
abbrev wM_flow : List Cond := Cond.code yM_flow cM_flow 8 none :: WM
abbrev wM_jump : List Cond := Cond.code yM_jump cM_jump 3 none :: WM
abbrev wM_shift : List Cond := Cond.code yM_shift cM_shift 13 none :: WM
abbrev wM_block : List Cond := Cond.code yM_block cM_block 6 none :: WM
abbrev wM_push : List Cond := Cond.code yM_push cM_push 7 none :: WM
abbrev wM_pop : List Cond := Cond.code yM_pop cM_pop 6 none :: WM
abbrev wM_deposit : List Cond := Cond.code yM_deposit cM_deposit 4 (some .boolean) :: WM
abbrev wM_examine : List Cond := Cond.code yM_examine cM_examine 2 (some .long) :: WM
abbrev wM_number : List Cond := Cond.code yM_number cM_number 2 (some .long) :: WM
abbrev wM_segment : List Cond := Cond.code yM_segment cM_segment 4 (some .boolean) :: WM
abbrev wM_start : List Cond := Cond.code yM_start cM_start 3 none :: WM
abbrev wM_run : List Cond := Cond.code yM_run cM_run 3 (some .int) :: WM
abbrev wM_look : List Cond := Cond.code yM_look cM_look 2 (some .int) :: WM
abbrev wJ_abs : List Cond := Cond.code yJ_abs cJ_abs 2 (some .long) :: []
abbrev wJ_floorMod : List Cond := Cond.code yJ_floorMod cJ_floorMod 3 (some .int) :: []
abbrev wJ_max : List Cond := Cond.code yJ_max cJ_max 2 (some .int) :: []
abbrev wJ_min : List Cond := Cond.code yJ_min cJ_min 2 (some .int) :: []
end
section
theorem dJ_abs_0 : decode cJ_abs 0 = .ok (.lload_n 0, 1) := by decide +kernel
theorem dJ_abs_1 : decode cJ_abs 1 = .ok (.lconst 0, 1) := by decide +kernel
theorem dJ_abs_2 : decode cJ_abs 2 = .ok (.lcmp, 1) := by decide +kernel
theorem dJ_abs_3 : decode cJ_abs 3 = .ok (.ifCond .ge 8, 3) := by decide +kernel
theorem dJ_abs_6 : decode cJ_abs 6 = .ok (.lload_n 0, 1) := by decide +kernel
theorem dJ_abs_7 : decode cJ_abs 7 = .ok (.lneg, 1) := by decide +kernel
theorem dJ_abs_8 : decode cJ_abs 8 = .ok (.goto 4, 3) := by decide +kernel
theorem dJ_abs_11 : decode cJ_abs 11 = .ok (.lload_n 0, 1) := by decide +kernel
theorem dJ_abs_12 : decode cJ_abs 12 = .ok (.lreturn, 1) := by decide +kernel
theorem dJ_floorMod_0 : decode cJ_floorMod 0 = .ok (.iload_n 0, 1) := by decide +kernel
theorem dJ_floorMod_1 : decode cJ_floorMod 1 = .ok (.iload_n 1, 1) := by decide +kernel
theorem dJ_floorMod_2 : decode cJ_floorMod 2 = .ok (.irem, 1) := by decide +kernel
theorem dJ_floorMod_3 : decode cJ_floorMod 3 = .ok (.istore_n 2, 1) := by decide +kernel
theorem dJ_floorMod_4 : decode cJ_floorMod 4 = .ok (.iload_n 0, 1) := by decide +kernel
theorem dJ_floorMod_5 : decode cJ_floorMod 5 = .ok (.iload_n 1, 1) := by decide +kernel
theorem dJ_floorMod_6 : decode cJ_floorMod 6 = .ok (.ixor, 1) := by decide +kernel
theorem dJ_floorMod_7 : decode cJ_floorMod 7 = .ok (.ifCond .ge 11, 3) := by decide +kernel
theorem dJ_floorMod_10 : decode cJ_floorMod 10 = .ok (.iload_n 2, 1) := by decide +kernel
theorem dJ_floorMod_11 : decode cJ_floorMod 11 = .ok (.ifCond .eq 7, 3) := by decide +kernel
theorem dJ_floorMod_14 : decode cJ_floorMod 14 = .ok (.iload_n 2, 1) := by decide +kernel
theorem dJ_floorMod_15 : decode cJ_floorMod 15 = .ok (.iload_n 1, 1) := by decide +kernel
theorem dJ_floorMod_16 : decode cJ_floorMod 16 = .ok (.iadd, 1) := by decide +kernel
theorem dJ_floorMod_17 : decode cJ_floorMod 17 = .ok (.ireturn, 1) := by decide +kernel
theorem dJ_floorMod_18 : decode cJ_floorMod 18 = .ok (.iload_n 2, 1) := by decide +kernel
theorem dJ_floorMod_19 : decode cJ_floorMod 19 = .ok (.ireturn, 1) := by decide +kernel
theorem dJ_max_0 : decode cJ_max 0 = .ok (.iload_n 0, 1) := by decide +kernel
theorem dJ_max_1 : decode cJ_max 1 = .ok (.iload_n 1, 1) := by decide +kernel
theorem dJ_max_2 : decode cJ_max 2 = .ok (.if_icmp .lt 7, 3) := by decide +kernel
theorem dJ_max_5 : decode cJ_max 5 = .ok (.iload_n 0, 1) := by decide +kernel
theorem dJ_max_6 : decode cJ_max 6 = .ok (.goto 4, 3) := by decide +kernel
theorem dJ_max_9 : decode cJ_max 9 = .ok (.iload_n 1, 1) := by decide +kernel
theorem dJ_max_10 : decode cJ_max 10 = .ok (.ireturn, 1) := by decide +kernel
theorem dJ_min_0 : decode cJ_min 0 = .ok (.iload_n 0, 1) := by decide +kernel
theorem dJ_min_1 : decode cJ_min 1 = .ok (.iload_n 1, 1) := by decide +kernel
theorem dJ_min_2 : decode cJ_min 2 = .ok (.if_icmp .gt 7, 3) := by decide +kernel
theorem dJ_min_5 : decode cJ_min 5 = .ok (.iload_n 0, 1) := by decide +kernel
theorem dJ_min_6 : decode cJ_min 6 = .ok (.goto 4, 3) := by decide +kernel
theorem dJ_min_9 : decode cJ_min 9 = .ok (.iload_n 1, 1) := by decide +kernel
theorem dJ_min_10 : decode cJ_min 10 = .ok (.ireturn, 1) := by decide +kernel
theorem dX_init_0 : decode cX_init 0 = .ok (.aload_n 0, 1) := by decide +kernel
theorem dX_init_1 : decode cX_init 1 = .ok (.invokespecial 1, 3) := by decide +kernel
theorem dX_init_4 : decode cX_init 4 = .ok (.aload_n 0, 1) := by decide +kernel
theorem dX_init_5 : decode cX_init 5 = .ok (.sipush 1024, 3) := by decide +kernel
theorem dX_init_8 : decode cX_init 8 = .ok (.newarray .long, 2) := by decide +kernel
theorem dX_init_10 : decode cX_init 10 = .ok (.putfield 9, 3) := by decide +kernel
theorem dX_init_13 : decode cX_init 13 = .ok (.return_, 1) := by decide +kernel
theorem dX_deposit_0 : decode cX_deposit 0 = .ok (.iload_n 1, 1) := by decide +kernel
theorem dX_deposit_1 : decode cX_deposit 1 = .ok (.invokestatic 13, 3) := by decide +kernel
theorem dX_deposit_4 : decode cX_deposit 4 = .ok (.ifCond .ne 5, 3) := by decide +kernel
theorem dX_deposit_7 : decode cX_deposit 7 = .ok (.iconst 0, 1) := by decide +kernel
theorem dX_deposit_8 : decode cX_deposit 8 = .ok (.ireturn, 1) := by decide +kernel
theorem dX_deposit_9 : decode cX_deposit 9 = .ok (.aload_n 0, 1) := by decide +kernel
theorem dX_deposit_10 : decode cX_deposit 10 = .ok (.getfield 9, 3) := by decide +kernel
theorem dX_deposit_13 : decode cX_deposit 13 = .ok (.iload_n 1, 1) := by decide +kernel
theorem dX_deposit_14 : decode cX_deposit 14 = .ok (.lload_n 2, 1) := by decide +kernel
theorem dX_deposit_15 : decode cX_deposit 15 = .ok (.ldc2_w 17, 3) := by decide +kernel
theorem dX_deposit_18 : decode cX_deposit 18 = .ok (.land, 1) := by decide +kernel
theorem dX_deposit_19 : decode cX_deposit 19 = .ok (.lastore, 1) := by decide +kernel
theorem dX_deposit_20 : decode cX_deposit 20 = .ok (.iconst 1, 1) := by decide +kernel
theorem dX_deposit_21 : decode cX_deposit 21 = .ok (.ireturn, 1) := by decide +kernel
theorem dX_examine_0 : decode cX_examine 0 = .ok (.iload_n 1, 1) := by decide +kernel
theorem dX_examine_1 : decode cX_examine 1 = .ok (.invokestatic 13, 3) := by decide +kernel
theorem dX_examine_4 : decode cX_examine 4 = .ok (.ifCond .eq 12, 3) := by decide +kernel
theorem dX_examine_7 : decode cX_examine 7 = .ok (.aload_n 0, 1) := by decide +kernel
theorem dX_examine_8 : decode cX_examine 8 = .ok (.getfield 9, 3) := by decide +kernel
theorem dX_examine_11 : decode cX_examine 11 = .ok (.iload_n 1, 1) := by decide +kernel
theorem dX_examine_12 : decode cX_examine 12 = .ok (.laload, 1) := by decide +kernel
theorem dX_examine_13 : decode cX_examine 13 = .ok (.goto 6, 3) := by decide +kernel
theorem dX_examine_16 : decode cX_examine 16 = .ok (.ldc2_w 19, 3) := by decide +kernel
theorem dX_examine_19 : decode cX_examine 19 = .ok (.lreturn, 1) := by decide +kernel
theorem dX_number_0 : decode cX_number 0 = .ok (.iload_n 1, 1) := by decide +kernel
theorem dX_number_1 : decode cX_number 1 = .ok (.invokestatic 13, 3) := by decide +kernel
theorem dX_number_4 : decode cX_number 4 = .ok (.ifCond .eq 15, 3) := by decide +kernel
theorem dX_number_7 : decode cX_number 7 = .ok (.aload_n 0, 1) := by decide +kernel
theorem dX_number_8 : decode cX_number 8 = .ok (.getfield 9, 3) := by decide +kernel
theorem dX_number_11 : decode cX_number 11 = .ok (.iload_n 1, 1) := by decide +kernel
theorem dX_number_12 : decode cX_number 12 = .ok (.laload, 1) := by decide +kernel
theorem dX_number_13 : decode cX_number 13 = .ok (.invokestatic 21, 3) := by decide +kernel
theorem dX_number_16 : decode cX_number 16 = .ok (.goto 4, 3) := by decide +kernel
theorem dX_number_19 : decode cX_number 19 = .ok (.lconst 0, 1) := by decide +kernel
theorem dX_number_20 : decode cX_number 20 = .ok (.lreturn, 1) := by decide +kernel
theorem dX_segment_0 : decode cX_segment 0 = .ok (.iload_n 1, 1) := by decide +kernel
theorem dX_segment_1 : decode cX_segment 1 = .ok (.ifCond .lt 22, 3) := by decide +kernel
theorem dX_segment_4 : decode cX_segment 4 = .ok (.iload_n 1, 1) := by decide +kernel
theorem dX_segment_5 : decode cX_segment 5 = .ok (.iconst 1, 1) := by decide +kernel
theorem dX_segment_6 : decode cX_segment 6 = .ok (.if_icmp .gt 17, 3) := by decide +kernel
theorem dX_segment_9 : decode cX_segment 9 = .ok (.iload_n 2, 1) := by decide +kernel
theorem dX_segment_10 : decode cX_segment 10 = .ok (.invokestatic 25, 3) := by decide +kernel
theorem dX_segment_13 : decode cX_segment 13 = .ok (.ifCond .eq 10, 3) := by decide +kernel
theorem dX_segment_16 : decode cX_segment 16 = .ok (.iload_n 3, 1) := by decide +kernel
theorem dX_segment_17 : decode cX_segment 17 = .ok (.invokestatic 25, 3) := by decide +kernel
theorem dX_segment_20 : decode cX_segment 20 = .ok (.ifCond .ne 5, 3) := by decide +kernel
theorem dX_segment_23 : decode cX_segment 23 = .ok (.iconst 0, 1) := by decide +kernel
theorem dX_segment_24 : decode cX_segment 24 = .ok (.ireturn, 1) := by decide +kernel
theorem dX_segment_25 : decode cX_segment 25 = .ok (.iload_n 1, 1) := by decide +kernel
theorem dX_segment_26 : decode cX_segment 26 = .ok (.ifCond .ne 16, 3) := by decide +kernel
theorem dX_segment_29 : decode cX_segment 29 = .ok (.aload_n 0, 1) := by decide +kernel
theorem dX_segment_30 : decode cX_segment 30 = .ok (.iload_n 2, 1) := by decide +kernel
theorem dX_segment_31 : decode cX_segment 31 = .ok (.putfield 28, 3) := by decide +kernel
theorem dX_segment_34 : decode cX_segment 34 = .ok (.aload_n 0, 1) := by decide +kernel
theorem dX_segment_35 : decode cX_segment 35 = .ok (.iload_n 3, 1) := by decide +kernel
theorem dX_segment_36 : decode cX_segment 36 = .ok (.putfield 32, 3) := by decide +kernel
theorem dX_segment_39 : decode cX_segment 39 = .ok (.goto 13, 3) := by decide +kernel
theorem dX_segment_42 : decode cX_segment 42 = .ok (.aload_n 0, 1) := by decide +kernel
theorem dX_segment_43 : decode cX_segment 43 = .ok (.iload_n 2, 1) := by decide +kernel
theorem dX_segment_44 : decode cX_segment 44 = .ok (.putfield 35, 3) := by decide +kernel
theorem dX_segment_47 : decode cX_segment 47 = .ok (.aload_n 0, 1) := by decide +kernel
theorem dX_segment_48 : decode cX_segment 48 = .ok (.iload_n 3, 1) := by decide +kernel
theorem dX_segment_49 : decode cX_segment 49 = .ok (.putfield 38, 3) := by decide +kernel
theorem dX_segment_52 : decode cX_segment 52 = .ok (.iconst 1, 1) := by decide +kernel
theorem dX_segment_53 : decode cX_segment 53 = .ok (.ireturn, 1) := by decide +kernel
theorem dX_start_0 : decode cX_start 0 = .ok (.aload_n 0, 1) := by decide +kernel
theorem dX_start_1 : decode cX_start 1 = .ok (.iload_n 1, 1) := by decide +kernel
theorem dX_start_2 : decode cX_start 2 = .ok (.ldc 41, 2) := by decide +kernel
theorem dX_start_4 : decode cX_start 4 = .ok (.iand, 1) := by decide +kernel
theorem dX_start_5 : decode cX_start 5 = .ok (.putfield 42, 3) := by decide +kernel
theorem dX_start_8 : decode cX_start 8 = .ok (.aload_n 0, 1) := by decide +kernel
theorem dX_start_9 : decode cX_start 9 = .ok (.iload_n 2, 1) := by decide +kernel
theorem dX_start_10 : decode cX_start 10 = .ok (.putfield 45, 3) := by decide +kernel
theorem dX_start_13 : decode cX_start 13 = .ok (.aload_n 0, 1) := by decide +kernel
theorem dX_start_14 : decode cX_start 14 = .ok (.iconst 0, 1) := by decide +kernel
theorem dX_start_15 : decode cX_start 15 = .ok (.putfield 49, 3) := by decide +kernel
theorem dX_start_18 : decode cX_start 18 = .ok (.aload_n 0, 1) := by decide +kernel
theorem dX_start_19 : decode cX_start 19 = .ok (.iconst 0, 1) := by decide +kernel
theorem dX_start_20 : decode cX_start 20 = .ok (.putfield 52, 3) := by decide +kernel
theorem dX_start_23 : decode cX_start 23 = .ok (.return_, 1) := by decide +kernel
theorem dX_run_0 : decode cX_run 0 = .ok (.iload_n 1, 1) := by decide +kernel
theorem dX_run_1 : decode cX_run 1 = .ok (.iconst 1, 1) := by decide +kernel
theorem dX_run_2 : decode cX_run 2 = .ok (.if_icmp .lt 9, 3) := by decide +kernel
theorem dX_run_5 : decode cX_run 5 = .ok (.iload_n 1, 1) := by decide +kernel
theorem dX_run_6 : decode cX_run 6 = .ok (.bipush 100, 2) := by decide +kernel
theorem dX_run_8 : decode cX_run 8 = .ok (.if_icmp .le 5, 3) := by decide +kernel
theorem dX_run_11 : decode cX_run 11 = .ok (.iconst (-1), 1) := by decide +kernel
theorem dX_run_12 : decode cX_run 12 = .ok (.ireturn, 1) := by decide +kernel
theorem dX_run_13 : decode cX_run 13 = .ok (.iconst 0, 1) := by decide +kernel
theorem dX_run_14 : decode cX_run 14 = .ok (.istore_n 2, 1) := by decide +kernel
theorem dX_run_15 : decode cX_run 15 = .ok (.iload_n 2, 1) := by decide +kernel
theorem dX_run_16 : decode cX_run 16 = .ok (.iload_n 1, 1) := by decide +kernel
theorem dX_run_17 : decode cX_run 17 = .ok (.if_icmp .ge 20, 3) := by decide +kernel
theorem dX_run_20 : decode cX_run 20 = .ok (.aload_n 0, 1) := by decide +kernel
theorem dX_run_21 : decode cX_run 21 = .ok (.getfield 49, 3) := by decide +kernel
theorem dX_run_24 : decode cX_run 24 = .ok (.ifCond .ne 13, 3) := by decide +kernel
theorem dX_run_27 : decode cX_run 27 = .ok (.aload_n 0, 1) := by decide +kernel
theorem dX_run_28 : decode cX_run 28 = .ok (.invokevirtual 55, 3) := by decide +kernel
theorem dX_run_31 : decode cX_run 31 = .ok (.iinc 2 1, 3) := by decide +kernel
theorem dX_run_34 : decode cX_run 34 = .ok (.goto (-19), 3) := by decide +kernel
theorem dX_run_37 : decode cX_run 37 = .ok (.iload_n 2, 1) := by decide +kernel
theorem dX_run_38 : decode cX_run 38 = .ok (.ireturn, 1) := by decide +kernel
theorem dX_look_0 : decode cX_look 0 = .ok (.iload_n 1, 1) := by decide +kernel
theorem dX_look_1 : decode cX_look 1 = .ok (.tableswitch 102 0 6 #[43, 48, 61, 74, 87, 92, 97], 43) := by decide +kernel
theorem dX_look_44 : decode cX_look 44 = .ok (.aload_n 0, 1) := by decide +kernel
theorem dX_look_45 : decode cX_look 45 = .ok (.getfield 42, 3) := by decide +kernel
theorem dX_look_48 : decode cX_look 48 = .ok (.ireturn, 1) := by decide +kernel
theorem dX_look_49 : decode cX_look 49 = .ok (.aload_n 0, 1) := by decide +kernel
theorem dX_look_50 : decode cX_look 50 = .ok (.getfield 45, 3) := by decide +kernel
theorem dX_look_53 : decode cX_look 53 = .ok (.ifCond .eq 7, 3) := by decide +kernel
theorem dX_look_56 : decode cX_look 56 = .ok (.iconst 1, 1) := by decide +kernel
theorem dX_look_57 : decode cX_look 57 = .ok (.goto 4, 3) := by decide +kernel
theorem dX_look_60 : decode cX_look 60 = .ok (.iconst 0, 1) := by decide +kernel
theorem dX_look_61 : decode cX_look 61 = .ok (.ireturn, 1) := by decide +kernel
theorem dX_look_62 : decode cX_look 62 = .ok (.aload_n 0, 1) := by decide +kernel
theorem dX_look_63 : decode cX_look 63 = .ok (.getfield 52, 3) := by decide +kernel
theorem dX_look_66 : decode cX_look 66 = .ok (.ifCond .eq 7, 3) := by decide +kernel
theorem dX_look_69 : decode cX_look 69 = .ok (.iconst 1, 1) := by decide +kernel
theorem dX_look_70 : decode cX_look 70 = .ok (.goto 4, 3) := by decide +kernel
theorem dX_look_73 : decode cX_look 73 = .ok (.iconst 0, 1) := by decide +kernel
theorem dX_look_74 : decode cX_look 74 = .ok (.ireturn, 1) := by decide +kernel
theorem dX_look_75 : decode cX_look 75 = .ok (.aload_n 0, 1) := by decide +kernel
theorem dX_look_76 : decode cX_look 76 = .ok (.getfield 49, 3) := by decide +kernel
theorem dX_look_79 : decode cX_look 79 = .ok (.ifCond .eq 7, 3) := by decide +kernel
theorem dX_look_82 : decode cX_look 82 = .ok (.iconst 1, 1) := by decide +kernel
theorem dX_look_83 : decode cX_look 83 = .ok (.goto 4, 3) := by decide +kernel
theorem dX_look_86 : decode cX_look 86 = .ok (.iconst 0, 1) := by decide +kernel
theorem dX_look_87 : decode cX_look 87 = .ok (.ireturn, 1) := by decide +kernel
theorem dX_look_88 : decode cX_look 88 = .ok (.aload_n 0, 1) := by decide +kernel
theorem dX_look_89 : decode cX_look 89 = .ok (.getfield 58, 3) := by decide +kernel
theorem dX_look_92 : decode cX_look 92 = .ok (.ireturn, 1) := by decide +kernel
theorem dX_look_93 : decode cX_look 93 = .ok (.aload_n 0, 1) := by decide +kernel
theorem dX_look_94 : decode cX_look 94 = .ok (.getfield 61, 3) := by decide +kernel
theorem dX_look_97 : decode cX_look 97 = .ok (.ireturn, 1) := by decide +kernel
theorem dX_look_98 : decode cX_look 98 = .ok (.aload_n 0, 1) := by decide +kernel
theorem dX_look_99 : decode cX_look 99 = .ok (.getfield 64, 3) := by decide +kernel
theorem dX_look_102 : decode cX_look 102 = .ok (.ireturn, 1) := by decide +kernel
theorem dX_look_103 : decode cX_look 103 = .ok (.iconst (-1), 1) := by decide +kernel
theorem dX_look_104 : decode cX_look 104 = .ok (.ireturn, 1) := by decide +kernel
theorem dX_step_0 : decode cX_step 0 = .ok (.aload_n 0, 1) := by decide +kernel
theorem dX_step_1 : decode cX_step 1 = .ok (.getfield 42, 3) := by decide +kernel
theorem dX_step_4 : decode cX_step 4 = .ok (.istore_n 1, 1) := by decide +kernel
theorem dX_step_5 : decode cX_step 5 = .ok (.aload_n 0, 1) := by decide +kernel
theorem dX_step_6 : decode cX_step 6 = .ok (.dup, 1) := by decide +kernel
theorem dX_step_7 : decode cX_step 7 = .ok (.getfield 58, 3) := by decide +kernel
theorem dX_step_10 : decode cX_step 10 = .ok (.iconst 1, 1) := by decide +kernel
theorem dX_step_11 : decode cX_step 11 = .ok (.iadd, 1) := by decide +kernel
theorem dX_step_12 : decode cX_step 12 = .ok (.putfield 58, 3) := by decide +kernel
theorem dX_step_15 : decode cX_step 15 = .ok (.aload_n 0, 1) := by decide +kernel
theorem dX_step_16 : decode cX_step 16 = .ok (.iconst 0, 1) := by decide +kernel
theorem dX_step_17 : decode cX_step 17 = .ok (.putfield 67, 3) := by decide +kernel
theorem dX_step_20 : decode cX_step 20 = .ok (.aload_n 0, 1) := by decide +kernel
theorem dX_step_21 : decode cX_step 21 = .ok (.iconst 0, 1) := by decide +kernel
theorem dX_step_22 : decode cX_step 22 = .ok (.putfield 70, 3) := by decide +kernel
theorem dX_step_25 : decode cX_step 25 = .ok (.aload_n 0, 1) := by decide +kernel
theorem dX_step_26 : decode cX_step 26 = .ok (.aload_n 0, 1) := by decide +kernel
theorem dX_step_27 : decode cX_step 27 = .ok (.getfield 42, 3) := by decide +kernel
theorem dX_step_30 : decode cX_step 30 = .ok (.invokevirtual 73, 3) := by decide +kernel
theorem dX_step_33 : decode cX_step 33 = .ok (.lstore_n 2, 1) := by decide +kernel
theorem dX_step_34 : decode cX_step 34 = .ok (.aload_n 0, 1) := by decide +kernel
theorem dX_step_35 : decode cX_step 35 = .ok (.aload_n 0, 1) := by decide +kernel
theorem dX_step_36 : decode cX_step 36 = .ok (.getfield 42, 3) := by decide +kernel
theorem dX_step_39 : decode cX_step 39 = .ok (.iconst 1, 1) := by decide +kernel
theorem dX_step_40 : decode cX_step 40 = .ok (.iadd, 1) := by decide +kernel
theorem dX_step_41 : decode cX_step 41 = .ok (.invokestatic 77, 3) := by decide +kernel
theorem dX_step_44 : decode cX_step 44 = .ok (.putfield 42, 3) := by decide +kernel
theorem dX_step_47 : decode cX_step 47 = .ok (.aload_n 0, 1) := by decide +kernel
theorem dX_step_48 : decode cX_step 48 = .ok (.lload_n 2, 1) := by decide +kernel
theorem dX_step_49 : decode cX_step 49 = .ok (.invokevirtual 81, 3) := by decide +kernel
theorem dX_step_52 : decode cX_step 52 = .ok (.istore 4, 2) := by decide +kernel
theorem dX_step_54 : decode cX_step 54 = .ok (.iconst 0, 1) := by decide +kernel
theorem dX_step_55 : decode cX_step 55 = .ok (.istore 5, 2) := by decide +kernel
theorem dX_step_57 : decode cX_step 57 = .ok (.iload 5, 2) := by decide +kernel
theorem dX_step_59 : decode cX_step 59 = .ok (.bipush 8, 2) := by decide +kernel
theorem dX_step_61 : decode cX_step 61 = .ok (.if_icmp .gt 40, 3) := by decide +kernel
theorem dX_step_64 : decode cX_step 64 = .ok (.aload_n 0, 1) := by decide +kernel
theorem dX_step_65 : decode cX_step 65 = .ok (.getfield 67, 3) := by decide +kernel
theorem dX_step_68 : decode cX_step 68 = .ok (.ifCond .ne 33, 3) := by decide +kernel
theorem dX_step_71 : decode cX_step 71 = .ok (.lload_n 2, 1) := by decide +kernel
theorem dX_step_72 : decode cX_step 72 = .ok (.invokestatic 85, 3) := by decide +kernel
theorem dX_step_75 : decode cX_step 75 = .ok (.sipush 174, 3) := by decide +kernel
theorem dX_step_78 : decode cX_step 78 = .ok (.if_icmp .ne 23, 3) := by decide +kernel
theorem dX_step_81 : decode cX_step 81 = .ok (.aload_n 0, 1) := by decide +kernel
theorem dX_step_82 : decode cX_step 82 = .ok (.iload 4, 2) := by decide +kernel
theorem dX_step_84 : decode cX_step 84 = .ok (.invokevirtual 88, 3) := by decide +kernel
theorem dX_step_87 : decode cX_step 87 = .ok (.lstore_n 2, 1) := by decide +kernel
theorem dX_step_88 : decode cX_step 88 = .ok (.aload_n 0, 1) := by decide +kernel
theorem dX_step_89 : decode cX_step 89 = .ok (.lload_n 2, 1) := by decide +kernel
theorem dX_step_90 : decode cX_step 90 = .ok (.invokevirtual 81, 3) := by decide +kernel
theorem dX_step_93 : decode cX_step 93 = .ok (.istore 4, 2) := by decide +kernel
theorem dX_step_95 : decode cX_step 95 = .ok (.iinc 5 1, 3) := by decide +kernel
theorem dX_step_98 : decode cX_step 98 = .ok (.goto (-41), 3) := by decide +kernel
theorem dX_step_101 : decode cX_step 101 = .ok (.aload_n 0, 1) := by decide +kernel
theorem dX_step_102 : decode cX_step 102 = .ok (.getfield 67, 3) := by decide +kernel
theorem dX_step_105 : decode cX_step 105 = .ok (.ifCond .ne 17, 3) := by decide +kernel
theorem dX_step_108 : decode cX_step 108 = .ok (.aload_n 0, 1) := by decide +kernel
theorem dX_step_109 : decode cX_step 109 = .ok (.lload_n 2, 1) := by decide +kernel
theorem dX_step_110 : decode cX_step 110 = .ok (.invokestatic 85, 3) := by decide +kernel
theorem dX_step_113 : decode cX_step 113 = .ok (.lload_n 2, 1) := by decide +kernel
theorem dX_step_114 : decode cX_step 114 = .ok (.invokestatic 91, 3) := by decide +kernel
theorem dX_step_117 : decode cX_step 117 = .ok (.iload 4, 2) := by decide +kernel
theorem dX_step_119 : decode cX_step 119 = .ok (.invokevirtual 94, 3) := by decide +kernel
theorem dX_step_122 : decode cX_step 122 = .ok (.aload_n 0, 1) := by decide +kernel
theorem dX_step_123 : decode cX_step 123 = .ok (.getfield 67, 3) := by decide +kernel
theorem dX_step_126 : decode cX_step 126 = .ok (.ifCond .eq 8, 3) := by decide +kernel
theorem dX_step_129 : decode cX_step 129 = .ok (.aload_n 0, 1) := by decide +kernel
theorem dX_step_130 : decode cX_step 130 = .ok (.iload_n 1, 1) := by decide +kernel
theorem dX_step_131 : decode cX_step 131 = .ok (.invokevirtual 98, 3) := by decide +kernel
theorem dX_step_134 : decode cX_step 134 = .ok (.return_, 1) := by decide +kernel
theorem dX_enterTrap_0 : decode cX_enterTrap 0 = .ok (.aload_n 0, 1) := by decide +kernel
theorem dX_enterTrap_1 : decode cX_enterTrap 1 = .ok (.getfield 9, 3) := by decide +kernel
theorem dX_enterTrap_4 : decode cX_enterTrap 4 = .ok (.bipush 32, 2) := by decide +kernel
theorem dX_enterTrap_6 : decode cX_enterTrap 6 = .ok (.aload_n 0, 1) := by decide +kernel
theorem dX_enterTrap_7 : decode cX_enterTrap 7 = .ok (.invokevirtual 102, 3) := by decide +kernel
theorem dX_enterTrap_10 : decode cX_enterTrap 10 = .ok (.aload_n 0, 1) := by decide +kernel
theorem dX_enterTrap_11 : decode cX_enterTrap 11 = .ok (.getfield 67, 3) := by decide +kernel
theorem dX_enterTrap_14 : decode cX_enterTrap 14 = .ok (.ior, 1) := by decide +kernel
theorem dX_enterTrap_15 : decode cX_enterTrap 15 = .ok (.iload_n 1, 1) := by decide +kernel
theorem dX_enterTrap_16 : decode cX_enterTrap 16 = .ok (.invokestatic 106, 3) := by decide +kernel
theorem dX_enterTrap_19 : decode cX_enterTrap 19 = .ok (.lastore, 1) := by decide +kernel
theorem dX_enterTrap_20 : decode cX_enterTrap 20 = .ok (.aload_n 0, 1) := by decide +kernel
theorem dX_enterTrap_21 : decode cX_enterTrap 21 = .ok (.iconst 0, 1) := by decide +kernel
theorem dX_enterTrap_22 : decode cX_enterTrap 22 = .ok (.putfield 45, 3) := by decide +kernel
theorem dX_enterTrap_25 : decode cX_enterTrap 25 = .ok (.aload_n 0, 1) := by decide +kernel
theorem dX_enterTrap_26 : decode cX_enterTrap 26 = .ok (.bipush 33, 2) := by decide +kernel
theorem dX_enterTrap_28 : decode cX_enterTrap 28 = .ok (.putfield 42, 3) := by decide +kernel
theorem dX_enterTrap_31 : decode cX_enterTrap 31 = .ok (.aload_n 0, 1) := by decide +kernel
theorem dX_enterTrap_32 : decode cX_enterTrap 32 = .ok (.dup, 1) := by decide +kernel
theorem dX_enterTrap_33 : decode cX_enterTrap 33 = .ok (.getfield 61, 3) := by decide +kernel
theorem dX_enterTrap_36 : decode cX_enterTrap 36 = .ok (.iconst 1, 1) := by decide +kernel
theorem dX_enterTrap_37 : decode cX_enterTrap 37 = .ok (.iadd, 1) := by decide +kernel
theorem dX_enterTrap_38 : decode cX_enterTrap 38 = .ok (.putfield 61, 3) := by decide +kernel
theorem dX_enterTrap_41 : decode cX_enterTrap 41 = .ok (.aload_n 0, 1) := by decide +kernel
theorem dX_enterTrap_42 : decode cX_enterTrap 42 = .ok (.aload_n 0, 1) := by decide +kernel
theorem dX_enterTrap_43 : decode cX_enterTrap 43 = .ok (.getfield 67, 3) := by decide +kernel
theorem dX_enterTrap_46 : decode cX_enterTrap 46 = .ok (.putfield 64, 3) := by decide +kernel
theorem dX_enterTrap_49 : decode cX_enterTrap 49 = .ok (.return_, 1) := by decide +kernel
theorem dX_raise_0 : decode cX_raise 0 = .ok (.aload_n 0, 1) := by decide +kernel
theorem dX_raise_1 : decode cX_raise 1 = .ok (.getfield 67, 3) := by decide +kernel
theorem dX_raise_4 : decode cX_raise 4 = .ok (.ifCond .ne 8, 3) := by decide +kernel
theorem dX_raise_7 : decode cX_raise 7 = .ok (.aload_n 0, 1) := by decide +kernel
theorem dX_raise_8 : decode cX_raise 8 = .ok (.iload_n 1, 1) := by decide +kernel
theorem dX_raise_9 : decode cX_raise 9 = .ok (.putfield 67, 3) := by decide +kernel
theorem dX_raise_12 : decode cX_raise 12 = .ok (.return_, 1) := by decide +kernel
theorem dX_flags_0 : decode cX_flags 0 = .ok (.aload_n 0, 1) := by decide +kernel
theorem dX_flags_1 : decode cX_flags 1 = .ok (.getfield 52, 3) := by decide +kernel
theorem dX_flags_4 : decode cX_flags 4 = .ok (.ifCond .eq 8, 3) := by decide +kernel
theorem dX_flags_7 : decode cX_flags 7 = .ok (.ldc 110, 2) := by decide +kernel
theorem dX_flags_9 : decode cX_flags 9 = .ok (.goto 4, 3) := by decide +kernel
theorem dX_flags_12 : decode cX_flags 12 = .ok (.iconst 0, 1) := by decide +kernel
theorem dX_flags_13 : decode cX_flags 13 = .ok (.aload_n 0, 1) := by decide +kernel
theorem dX_flags_14 : decode cX_flags 14 = .ok (.getfield 45, 3) := by decide +kernel
theorem dX_flags_17 : decode cX_flags 17 = .ok (.ifCond .eq 9, 3) := by decide +kernel
theorem dX_flags_20 : decode cX_flags 20 = .ok (.sipush 4096, 3) := by decide +kernel
theorem dX_flags_23 : decode cX_flags 23 = .ok (.goto 4, 3) := by decide +kernel
theorem dX_flags_26 : decode cX_flags 26 = .ok (.iconst 0, 1) := by decide +kernel
theorem dX_flags_27 : decode cX_flags 27 = .ok (.ior, 1) := by decide +kernel
theorem dX_flags_28 : decode cX_flags 28 = .ok (.ireturn, 1) := by decide +kernel
theorem dX_pcWord_0 : decode cX_pcWord 0 = .ok (.aload_n 0, 1) := by decide +kernel
theorem dX_pcWord_1 : decode cX_pcWord 1 = .ok (.invokevirtual 102, 3) := by decide +kernel
theorem dX_pcWord_4 : decode cX_pcWord 4 = .ok (.aload_n 0, 1) := by decide +kernel
theorem dX_pcWord_5 : decode cX_pcWord 5 = .ok (.getfield 42, 3) := by decide +kernel
theorem dX_pcWord_8 : decode cX_pcWord 8 = .ok (.invokestatic 106, 3) := by decide +kernel
theorem dX_pcWord_11 : decode cX_pcWord 11 = .ok (.lreturn, 1) := by decide +kernel
theorem dX_carryOut_0 : decode cX_carryOut 0 = .ok (.iload_n 1, 1) := by decide +kernel
theorem dX_carryOut_1 : decode cX_carryOut 1 = .ok (.iconst 3, 1) := by decide +kernel
theorem dX_carryOut_2 : decode cX_carryOut 2 = .ok (.ishr, 1) := by decide +kernel
theorem dX_carryOut_3 : decode cX_carryOut 3 = .ok (.tableswitch 129 11 23 #[65, 129, 129, 129, 129, 73, 73, 81, 89, 97, 105, 113, 121], 65) := by decide +kernel
theorem dX_carryOut_68 : decode cX_carryOut 68 = .ok (.aload_n 0, 1) := by decide +kernel
theorem dX_carryOut_69 : decode cX_carryOut 69 = .ok (.iload_n 1, 1) := by decide +kernel
theorem dX_carryOut_70 : decode cX_carryOut 70 = .ok (.iload_n 2, 1) := by decide +kernel
theorem dX_carryOut_71 : decode cX_carryOut 71 = .ok (.iload_n 3, 1) := by decide +kernel
theorem dX_carryOut_72 : decode cX_carryOut 72 = .ok (.invokevirtual 111, 3) := by decide +kernel
theorem dX_carryOut_75 : decode cX_carryOut 75 = .ok (.return_, 1) := by decide +kernel
theorem dX_carryOut_76 : decode cX_carryOut 76 = .ok (.aload_n 0, 1) := by decide +kernel
theorem dX_carryOut_77 : decode cX_carryOut 77 = .ok (.iload_n 1, 1) := by decide +kernel
theorem dX_carryOut_78 : decode cX_carryOut 78 = .ok (.iload_n 2, 1) := by decide +kernel
theorem dX_carryOut_79 : decode cX_carryOut 79 = .ok (.iload_n 3, 1) := by decide +kernel
theorem dX_carryOut_80 : decode cX_carryOut 80 = .ok (.invokevirtual 114, 3) := by decide +kernel
theorem dX_carryOut_83 : decode cX_carryOut 83 = .ok (.return_, 1) := by decide +kernel
theorem dX_carryOut_84 : decode cX_carryOut 84 = .ok (.aload_n 0, 1) := by decide +kernel
theorem dX_carryOut_85 : decode cX_carryOut 85 = .ok (.iload_n 1, 1) := by decide +kernel
theorem dX_carryOut_86 : decode cX_carryOut 86 = .ok (.iload_n 2, 1) := by decide +kernel
theorem dX_carryOut_87 : decode cX_carryOut 87 = .ok (.iload_n 3, 1) := by decide +kernel
theorem dX_carryOut_88 : decode cX_carryOut 88 = .ok (.invokevirtual 117, 3) := by decide +kernel
theorem dX_carryOut_91 : decode cX_carryOut 91 = .ok (.return_, 1) := by decide +kernel
theorem dX_carryOut_92 : decode cX_carryOut 92 = .ok (.aload_n 0, 1) := by decide +kernel
theorem dX_carryOut_93 : decode cX_carryOut 93 = .ok (.iload_n 1, 1) := by decide +kernel
theorem dX_carryOut_94 : decode cX_carryOut 94 = .ok (.iload_n 2, 1) := by decide +kernel
theorem dX_carryOut_95 : decode cX_carryOut 95 = .ok (.iload_n 3, 1) := by decide +kernel
theorem dX_carryOut_96 : decode cX_carryOut 96 = .ok (.invokevirtual 120, 3) := by decide +kernel
theorem dX_carryOut_99 : decode cX_carryOut 99 = .ok (.return_, 1) := by decide +kernel
theorem dX_carryOut_100 : decode cX_carryOut 100 = .ok (.aload_n 0, 1) := by decide +kernel
theorem dX_carryOut_101 : decode cX_carryOut 101 = .ok (.iload_n 1, 1) := by decide +kernel
theorem dX_carryOut_102 : decode cX_carryOut 102 = .ok (.iload_n 2, 1) := by decide +kernel
theorem dX_carryOut_103 : decode cX_carryOut 103 = .ok (.iload_n 3, 1) := by decide +kernel
theorem dX_carryOut_104 : decode cX_carryOut 104 = .ok (.invokevirtual 123, 3) := by decide +kernel
theorem dX_carryOut_107 : decode cX_carryOut 107 = .ok (.return_, 1) := by decide +kernel
theorem dX_carryOut_108 : decode cX_carryOut 108 = .ok (.aload_n 0, 1) := by decide +kernel
theorem dX_carryOut_109 : decode cX_carryOut 109 = .ok (.iload_n 1, 1) := by decide +kernel
theorem dX_carryOut_110 : decode cX_carryOut 110 = .ok (.iload_n 2, 1) := by decide +kernel
theorem dX_carryOut_111 : decode cX_carryOut 111 = .ok (.iload_n 3, 1) := by decide +kernel
theorem dX_carryOut_112 : decode cX_carryOut 112 = .ok (.invokevirtual 126, 3) := by decide +kernel
theorem dX_carryOut_115 : decode cX_carryOut 115 = .ok (.return_, 1) := by decide +kernel
theorem dX_carryOut_116 : decode cX_carryOut 116 = .ok (.aload_n 0, 1) := by decide +kernel
theorem dX_carryOut_117 : decode cX_carryOut 117 = .ok (.iload_n 1, 1) := by decide +kernel
theorem dX_carryOut_118 : decode cX_carryOut 118 = .ok (.iload_n 2, 1) := by decide +kernel
theorem dX_carryOut_119 : decode cX_carryOut 119 = .ok (.iload_n 3, 1) := by decide +kernel
theorem dX_carryOut_120 : decode cX_carryOut 120 = .ok (.invokevirtual 129, 3) := by decide +kernel
theorem dX_carryOut_123 : decode cX_carryOut 123 = .ok (.return_, 1) := by decide +kernel
theorem dX_carryOut_124 : decode cX_carryOut 124 = .ok (.aload_n 0, 1) := by decide +kernel
theorem dX_carryOut_125 : decode cX_carryOut 125 = .ok (.iload_n 1, 1) := by decide +kernel
theorem dX_carryOut_126 : decode cX_carryOut 126 = .ok (.iload_n 2, 1) := by decide +kernel
theorem dX_carryOut_127 : decode cX_carryOut 127 = .ok (.iload_n 3, 1) := by decide +kernel
theorem dX_carryOut_128 : decode cX_carryOut 128 = .ok (.invokevirtual 132, 3) := by decide +kernel
theorem dX_carryOut_131 : decode cX_carryOut 131 = .ok (.return_, 1) := by decide +kernel
theorem dX_carryOut_132 : decode cX_carryOut 132 = .ok (.iload_n 1, 1) := by decide +kernel
theorem dX_carryOut_133 : decode cX_carryOut 133 = .ok (.bipush 6, 2) := by decide +kernel
theorem dX_carryOut_135 : decode cX_carryOut 135 = .ok (.ishr, 1) := by decide +kernel
theorem dX_carryOut_136 : decode cX_carryOut 136 = .ok (.tableswitch 64 3 6 #[32, 40, 48, 56], 32) := by decide +kernel
theorem dX_carryOut_168 : decode cX_carryOut 168 = .ok (.aload_n 0, 1) := by decide +kernel
theorem dX_carryOut_169 : decode cX_carryOut 169 = .ok (.iload_n 1, 1) := by decide +kernel
theorem dX_carryOut_170 : decode cX_carryOut 170 = .ok (.iload_n 2, 1) := by decide +kernel
theorem dX_carryOut_171 : decode cX_carryOut 171 = .ok (.iload_n 3, 1) := by decide +kernel
theorem dX_carryOut_172 : decode cX_carryOut 172 = .ok (.invokevirtual 135, 3) := by decide +kernel
theorem dX_carryOut_175 : decode cX_carryOut 175 = .ok (.return_, 1) := by decide +kernel
theorem dX_carryOut_176 : decode cX_carryOut 176 = .ok (.aload_n 0, 1) := by decide +kernel
theorem dX_carryOut_177 : decode cX_carryOut 177 = .ok (.iload_n 1, 1) := by decide +kernel
theorem dX_carryOut_178 : decode cX_carryOut 178 = .ok (.iload_n 2, 1) := by decide +kernel
theorem dX_carryOut_179 : decode cX_carryOut 179 = .ok (.iload_n 3, 1) := by decide +kernel
theorem dX_carryOut_180 : decode cX_carryOut 180 = .ok (.invokevirtual 138, 3) := by decide +kernel
theorem dX_carryOut_183 : decode cX_carryOut 183 = .ok (.return_, 1) := by decide +kernel
theorem dX_carryOut_184 : decode cX_carryOut 184 = .ok (.aload_n 0, 1) := by decide +kernel
theorem dX_carryOut_185 : decode cX_carryOut 185 = .ok (.iload_n 1, 1) := by decide +kernel
theorem dX_carryOut_186 : decode cX_carryOut 186 = .ok (.iload_n 2, 1) := by decide +kernel
theorem dX_carryOut_187 : decode cX_carryOut 187 = .ok (.iload_n 3, 1) := by decide +kernel
theorem dX_carryOut_188 : decode cX_carryOut 188 = .ok (.invokevirtual 141, 3) := by decide +kernel
theorem dX_carryOut_191 : decode cX_carryOut 191 = .ok (.return_, 1) := by decide +kernel
theorem dX_carryOut_192 : decode cX_carryOut 192 = .ok (.aload_n 0, 1) := by decide +kernel
theorem dX_carryOut_193 : decode cX_carryOut 193 = .ok (.iload_n 1, 1) := by decide +kernel
theorem dX_carryOut_194 : decode cX_carryOut 194 = .ok (.iload_n 2, 1) := by decide +kernel
theorem dX_carryOut_195 : decode cX_carryOut 195 = .ok (.iload_n 3, 1) := by decide +kernel
theorem dX_carryOut_196 : decode cX_carryOut 196 = .ok (.invokevirtual 144, 3) := by decide +kernel
theorem dX_carryOut_199 : decode cX_carryOut 199 = .ok (.return_, 1) := by decide +kernel
theorem dX_carryOut_200 : decode cX_carryOut 200 = .ok (.aload_n 0, 1) := by decide +kernel
theorem dX_carryOut_201 : decode cX_carryOut 201 = .ok (.iconst 2, 1) := by decide +kernel
theorem dX_carryOut_202 : decode cX_carryOut 202 = .ok (.invokevirtual 147, 3) := by decide +kernel
theorem dX_carryOut_205 : decode cX_carryOut 205 = .ok (.return_, 1) := by decide +kernel
theorem dX_isPlace_0 : decode cX_isPlace 0 = .ok (.iload_n 0, 1) := by decide +kernel
theorem dX_isPlace_1 : decode cX_isPlace 1 = .ok (.ifCond .lt 14, 3) := by decide +kernel
theorem dX_isPlace_4 : decode cX_isPlace 4 = .ok (.iload_n 0, 1) := by decide +kernel
theorem dX_isPlace_5 : decode cX_isPlace 5 = .ok (.sipush 1024, 3) := by decide +kernel
theorem dX_isPlace_8 : decode cX_isPlace 8 = .ok (.if_icmp .ge 7, 3) := by decide +kernel
theorem dX_isPlace_11 : decode cX_isPlace 11 = .ok (.iconst 1, 1) := by decide +kernel
theorem dX_isPlace_12 : decode cX_isPlace 12 = .ok (.goto 4, 3) := by decide +kernel
theorem dX_isPlace_15 : decode cX_isPlace 15 = .ok (.iconst 0, 1) := by decide +kernel
theorem dX_isPlace_16 : decode cX_isPlace 16 = .ok (.ireturn, 1) := by decide +kernel
theorem dX_isExtent_0 : decode cX_isExtent 0 = .ok (.iload_n 0, 1) := by decide +kernel
theorem dX_isExtent_1 : decode cX_isExtent 1 = .ok (.ifCond .lt 14, 3) := by decide +kernel
theorem dX_isExtent_4 : decode cX_isExtent 4 = .ok (.iload_n 0, 1) := by decide +kernel
theorem dX_isExtent_5 : decode cX_isExtent 5 = .ok (.sipush 1024, 3) := by decide +kernel
theorem dX_isExtent_8 : decode cX_isExtent 8 = .ok (.if_icmp .gt 7, 3) := by decide +kernel
theorem dX_isExtent_11 : decode cX_isExtent 11 = .ok (.iconst 1, 1) := by decide +kernel
theorem dX_isExtent_12 : decode cX_isExtent 12 = .ok (.goto 4, 3) := by decide +kernel
theorem dX_isExtent_15 : decode cX_isExtent 15 = .ok (.iconst 0, 1) := by decide +kernel
theorem dX_isExtent_16 : decode cX_isExtent 16 = .ok (.ireturn, 1) := by decide +kernel
theorem dX_placeOf_0 : decode cX_placeOf 0 = .ok (.aload_n 0, 1) := by decide +kernel
theorem dX_placeOf_1 : decode cX_placeOf 1 = .ok (.getfield 45, 3) := by decide +kernel
theorem dX_placeOf_4 : decode cX_placeOf 4 = .ok (.ifCond .eq 9, 3) := by decide +kernel
theorem dX_placeOf_7 : decode cX_placeOf 7 = .ok (.iload_n 1, 1) := by decide +kernel
theorem dX_placeOf_8 : decode cX_placeOf 8 = .ok (.bipush 16, 2) := by decide +kernel
theorem dX_placeOf_10 : decode cX_placeOf 10 = .ok (.if_icmp .ge 5, 3) := by decide +kernel
theorem dX_placeOf_13 : decode cX_placeOf 13 = .ok (.iload_n 1, 1) := by decide +kernel
theorem dX_placeOf_14 : decode cX_placeOf 14 = .ok (.ireturn, 1) := by decide +kernel
theorem dX_placeOf_15 : decode cX_placeOf 15 = .ok (.iload_n 1, 1) := by decide +kernel
theorem dX_placeOf_16 : decode cX_placeOf 16 = .ok (.aload_n 0, 1) := by decide +kernel
theorem dX_placeOf_17 : decode cX_placeOf 17 = .ok (.getfield 32, 3) := by decide +kernel
theorem dX_placeOf_20 : decode cX_placeOf 20 = .ok (.if_icmp .ge 10, 3) := by decide +kernel
theorem dX_placeOf_23 : decode cX_placeOf 23 = .ok (.iload_n 1, 1) := by decide +kernel
theorem dX_placeOf_24 : decode cX_placeOf 24 = .ok (.aload_n 0, 1) := by decide +kernel
theorem dX_placeOf_25 : decode cX_placeOf 25 = .ok (.getfield 28, 3) := by decide +kernel
theorem dX_placeOf_28 : decode cX_placeOf 28 = .ok (.iadd, 1) := by decide +kernel
theorem dX_placeOf_29 : decode cX_placeOf 29 = .ok (.ireturn, 1) := by decide +kernel
theorem dX_placeOf_30 : decode cX_placeOf 30 = .ok (.iload_n 1, 1) := by decide +kernel
theorem dX_placeOf_31 : decode cX_placeOf 31 = .ok (.ldc 110, 2) := by decide +kernel
theorem dX_placeOf_33 : decode cX_placeOf 33 = .ok (.isub, 1) := by decide +kernel
theorem dX_placeOf_34 : decode cX_placeOf 34 = .ok (.istore_n 2, 1) := by decide +kernel
theorem dX_placeOf_35 : decode cX_placeOf 35 = .ok (.iload_n 2, 1) := by decide +kernel
theorem dX_placeOf_36 : decode cX_placeOf 36 = .ok (.ifCond .lt 20, 3) := by decide +kernel
theorem dX_placeOf_39 : decode cX_placeOf 39 = .ok (.iload_n 2, 1) := by decide +kernel
theorem dX_placeOf_40 : decode cX_placeOf 40 = .ok (.aload_n 0, 1) := by decide +kernel
theorem dX_placeOf_41 : decode cX_placeOf 41 = .ok (.getfield 38, 3) := by decide +kernel
theorem dX_placeOf_44 : decode cX_placeOf 44 = .ok (.if_icmp .ge 12, 3) := by decide +kernel
theorem dX_placeOf_47 : decode cX_placeOf 47 = .ok (.iload_n 2, 1) := by decide +kernel
theorem dX_placeOf_48 : decode cX_placeOf 48 = .ok (.aload_n 0, 1) := by decide +kernel
theorem dX_placeOf_49 : decode cX_placeOf 49 = .ok (.getfield 35, 3) := by decide +kernel
theorem dX_placeOf_52 : decode cX_placeOf 52 = .ok (.iadd, 1) := by decide +kernel
theorem dX_placeOf_53 : decode cX_placeOf 53 = .ok (.goto 4, 3) := by decide +kernel
theorem dX_placeOf_56 : decode cX_placeOf 56 = .ok (.iconst (-1), 1) := by decide +kernel
theorem dX_placeOf_57 : decode cX_placeOf 57 = .ok (.ireturn, 1) := by decide +kernel
theorem dX_read_0 : decode cX_read 0 = .ok (.aload_n 0, 1) := by decide +kernel
theorem dX_read_1 : decode cX_read 1 = .ok (.iload_n 1, 1) := by decide +kernel
theorem dX_read_2 : decode cX_read 2 = .ok (.invokevirtual 150, 3) := by decide +kernel
theorem dX_read_5 : decode cX_read 5 = .ok (.istore_n 2, 1) := by decide +kernel
theorem dX_read_6 : decode cX_read 6 = .ok (.iload_n 2, 1) := by decide +kernel
theorem dX_read_7 : decode cX_read 7 = .ok (.invokestatic 13, 3) := by decide +kernel
theorem dX_read_10 : decode cX_read 10 = .ok (.ifCond .ne 10, 3) := by decide +kernel
theorem dX_read_13 : decode cX_read 13 = .ok (.aload_n 0, 1) := by decide +kernel
theorem dX_read_14 : decode cX_read 14 = .ok (.iconst 1, 1) := by decide +kernel
theorem dX_read_15 : decode cX_read 15 = .ok (.invokevirtual 147, 3) := by decide +kernel
theorem dX_read_18 : decode cX_read 18 = .ok (.lconst 0, 1) := by decide +kernel
theorem dX_read_19 : decode cX_read 19 = .ok (.lreturn, 1) := by decide +kernel
theorem dX_read_20 : decode cX_read 20 = .ok (.aload_n 0, 1) := by decide +kernel
theorem dX_read_21 : decode cX_read 21 = .ok (.getfield 9, 3) := by decide +kernel
theorem dX_read_24 : decode cX_read 24 = .ok (.iload_n 2, 1) := by decide +kernel
theorem dX_read_25 : decode cX_read 25 = .ok (.laload, 1) := by decide +kernel
theorem dX_read_26 : decode cX_read 26 = .ok (.lreturn, 1) := by decide +kernel
theorem dX_write_0 : decode cX_write 0 = .ok (.aload_n 0, 1) := by decide +kernel
theorem dX_write_1 : decode cX_write 1 = .ok (.iload_n 1, 1) := by decide +kernel
theorem dX_write_2 : decode cX_write 2 = .ok (.invokevirtual 150, 3) := by decide +kernel
theorem dX_write_5 : decode cX_write 5 = .ok (.istore 4, 2) := by decide +kernel
theorem dX_write_7 : decode cX_write 7 = .ok (.iload 4, 2) := by decide +kernel
theorem dX_write_9 : decode cX_write 9 = .ok (.invokestatic 13, 3) := by decide +kernel
theorem dX_write_12 : decode cX_write 12 = .ok (.ifCond .ne 11, 3) := by decide +kernel
theorem dX_write_15 : decode cX_write 15 = .ok (.aload_n 0, 1) := by decide +kernel
theorem dX_write_16 : decode cX_write 16 = .ok (.iconst 1, 1) := by decide +kernel
theorem dX_write_17 : decode cX_write 17 = .ok (.invokevirtual 147, 3) := by decide +kernel
theorem dX_write_20 : decode cX_write 20 = .ok (.goto 18, 3) := by decide +kernel
theorem dX_write_23 : decode cX_write 23 = .ok (.aload_n 0, 1) := by decide +kernel
theorem dX_write_24 : decode cX_write 24 = .ok (.getfield 67, 3) := by decide +kernel
theorem dX_write_27 : decode cX_write 27 = .ok (.ifCond .ne 11, 3) := by decide +kernel
theorem dX_write_30 : decode cX_write 30 = .ok (.aload_n 0, 1) := by decide +kernel
theorem dX_write_31 : decode cX_write 31 = .ok (.getfield 9, 3) := by decide +kernel
theorem dX_write_34 : decode cX_write 34 = .ok (.iload 4, 2) := by decide +kernel
theorem dX_write_36 : decode cX_write 36 = .ok (.lload_n 2, 1) := by decide +kernel
theorem dX_write_37 : decode cX_write 37 = .ok (.lastore, 1) := by decide +kernel
theorem dX_write_38 : decode cX_write 38 = .ok (.return_, 1) := by decide +kernel
theorem dX_setAccumulator_0 : decode cX_setAccumulator 0 = .ok (.aload_n 0, 1) := by decide +kernel
theorem dX_setAccumulator_1 : decode cX_setAccumulator 1 = .ok (.getfield 67, 3) := by decide +kernel
theorem dX_setAccumulator_4 : decode cX_setAccumulator 4 = .ok (.ifCond .ne 10, 3) := by decide +kernel
theorem dX_setAccumulator_7 : decode cX_setAccumulator 7 = .ok (.aload_n 0, 1) := by decide +kernel
theorem dX_setAccumulator_8 : decode cX_setAccumulator 8 = .ok (.getfield 9, 3) := by decide +kernel
theorem dX_setAccumulator_11 : decode cX_setAccumulator 11 = .ok (.iload_n 1, 1) := by decide +kernel
theorem dX_setAccumulator_12 : decode cX_setAccumulator 12 = .ok (.lload_n 2, 1) := by decide +kernel
theorem dX_setAccumulator_13 : decode cX_setAccumulator 13 = .ok (.lastore, 1) := by decide +kernel
theorem dX_setAccumulator_14 : decode cX_setAccumulator 14 = .ok (.return_, 1) := by decide +kernel
theorem dX_setAccumulatorButZero_0 : decode cX_setAccumulatorButZero 0 = .ok (.iload_n 1, 1) := by decide +kernel
theorem dX_setAccumulatorButZero_1 : decode cX_setAccumulatorButZero 1 = .ok (.ifCond .eq 9, 3) := by decide +kernel
theorem dX_setAccumulatorButZero_4 : decode cX_setAccumulatorButZero 4 = .ok (.aload_n 0, 1) := by decide +kernel
theorem dX_setAccumulatorButZero_5 : decode cX_setAccumulatorButZero 5 = .ok (.iload_n 1, 1) := by decide +kernel
theorem dX_setAccumulatorButZero_6 : decode cX_setAccumulatorButZero 6 = .ok (.lload_n 2, 1) := by decide +kernel
theorem dX_setAccumulatorButZero_7 : decode cX_setAccumulatorButZero 7 = .ok (.invokevirtual 153, 3) := by decide +kernel
theorem dX_setAccumulatorButZero_10 : decode cX_setAccumulatorButZero 10 = .ok (.return_, 1) := by decide +kernel
theorem dX_setOverflow_0 : decode cX_setOverflow 0 = .ok (.aload_n 0, 1) := by decide +kernel
theorem dX_setOverflow_1 : decode cX_setOverflow 1 = .ok (.getfield 67, 3) := by decide +kernel
theorem dX_setOverflow_4 : decode cX_setOverflow 4 = .ok (.ifCond .ne 8, 3) := by decide +kernel
theorem dX_setOverflow_7 : decode cX_setOverflow 7 = .ok (.aload_n 0, 1) := by decide +kernel
theorem dX_setOverflow_8 : decode cX_setOverflow 8 = .ok (.iconst 1, 1) := by decide +kernel
theorem dX_setOverflow_9 : decode cX_setOverflow 9 = .ok (.putfield 52, 3) := by decide +kernel
theorem dX_setOverflow_12 : decode cX_setOverflow 12 = .ok (.return_, 1) := by decide +kernel
theorem dX_effective_0 : decode cX_effective 0 = .ok (.lload_n 1, 1) := by decide +kernel
theorem dX_effective_1 : decode cX_effective 1 = .ok (.lstore_n 3, 1) := by decide +kernel
theorem dX_effective_2 : decode cX_effective 2 = .ok (.aload_n 0, 1) := by decide +kernel
theorem dX_effective_3 : decode cX_effective 3 = .ok (.lload_n 3, 1) := by decide +kernel
theorem dX_effective_4 : decode cX_effective 4 = .ok (.invokevirtual 157, 3) := by decide +kernel
theorem dX_effective_7 : decode cX_effective 7 = .ok (.istore 5, 2) := by decide +kernel
theorem dX_effective_9 : decode cX_effective 9 = .ok (.iconst 0, 1) := by decide +kernel
theorem dX_effective_10 : decode cX_effective 10 = .ok (.istore 6, 2) := by decide +kernel
theorem dX_effective_12 : decode cX_effective 12 = .ok (.iload 6, 2) := by decide +kernel
theorem dX_effective_14 : decode cX_effective 14 = .ok (.bipush 8, 2) := by decide +kernel
theorem dX_effective_16 : decode cX_effective 16 = .ok (.if_icmp .gt 37, 3) := by decide +kernel
theorem dX_effective_19 : decode cX_effective 19 = .ok (.aload_n 0, 1) := by decide +kernel
theorem dX_effective_20 : decode cX_effective 20 = .ok (.getfield 67, 3) := by decide +kernel
theorem dX_effective_23 : decode cX_effective 23 = .ok (.ifCond .ne 30, 3) := by decide +kernel
theorem dX_effective_26 : decode cX_effective 26 = .ok (.lload_n 3, 1) := by decide +kernel
theorem dX_effective_27 : decode cX_effective 27 = .ok (.invokestatic 160, 3) := by decide +kernel
theorem dX_effective_30 : decode cX_effective 30 = .ok (.ifCond .eq 23, 3) := by decide +kernel
theorem dX_effective_33 : decode cX_effective 33 = .ok (.aload_n 0, 1) := by decide +kernel
theorem dX_effective_34 : decode cX_effective 34 = .ok (.iload 5, 2) := by decide +kernel
theorem dX_effective_36 : decode cX_effective 36 = .ok (.invokevirtual 88, 3) := by decide +kernel
theorem dX_effective_39 : decode cX_effective 39 = .ok (.lstore_n 3, 1) := by decide +kernel
theorem dX_effective_40 : decode cX_effective 40 = .ok (.aload_n 0, 1) := by decide +kernel
theorem dX_effective_41 : decode cX_effective 41 = .ok (.lload_n 3, 1) := by decide +kernel
theorem dX_effective_42 : decode cX_effective 42 = .ok (.invokevirtual 157, 3) := by decide +kernel
theorem dX_effective_45 : decode cX_effective 45 = .ok (.istore 5, 2) := by decide +kernel
theorem dX_effective_47 : decode cX_effective 47 = .ok (.iinc 6 1, 3) := by decide +kernel
theorem dX_effective_50 : decode cX_effective 50 = .ok (.goto (-38), 3) := by decide +kernel
theorem dX_effective_53 : decode cX_effective 53 = .ok (.iload 5, 2) := by decide +kernel
theorem dX_effective_55 : decode cX_effective 55 = .ok (.ireturn, 1) := by decide +kernel
theorem dX_take_0 : decode cX_take 0 = .ok (.aload_n 0, 1) := by decide +kernel
theorem dX_take_1 : decode cX_take 1 = .ok (.getfield 70, 3) := by decide +kernel
theorem dX_take_4 : decode cX_take 4 = .ok (.bipush 8, 2) := by decide +kernel
theorem dX_take_6 : decode cX_take 6 = .ok (.if_icmp .ne 10, 3) := by decide +kernel
theorem dX_take_9 : decode cX_take 9 = .ok (.aload_n 0, 1) := by decide +kernel
theorem dX_take_10 : decode cX_take 10 = .ok (.iconst 4, 1) := by decide +kernel
theorem dX_take_11 : decode cX_take 11 = .ok (.invokevirtual 147, 3) := by decide +kernel
theorem dX_take_14 : decode cX_take 14 = .ok (.lconst 0, 1) := by decide +kernel
theorem dX_take_15 : decode cX_take 15 = .ok (.lreturn, 1) := by decide +kernel
theorem dX_take_16 : decode cX_take 16 = .ok (.aload_n 0, 1) := by decide +kernel
theorem dX_take_17 : decode cX_take 17 = .ok (.dup, 1) := by decide +kernel
theorem dX_take_18 : decode cX_take 18 = .ok (.getfield 70, 3) := by decide +kernel
theorem dX_take_21 : decode cX_take 21 = .ok (.iconst 1, 1) := by decide +kernel
theorem dX_take_22 : decode cX_take 22 = .ok (.iadd, 1) := by decide +kernel
theorem dX_take_23 : decode cX_take 23 = .ok (.putfield 70, 3) := by decide +kernel
theorem dX_take_26 : decode cX_take 26 = .ok (.aload_n 0, 1) := by decide +kernel
theorem dX_take_27 : decode cX_take 27 = .ok (.iload_n 1, 1) := by decide +kernel
theorem dX_take_28 : decode cX_take 28 = .ok (.invokevirtual 73, 3) := by decide +kernel
theorem dX_take_31 : decode cX_take 31 = .ok (.lreturn, 1) := by decide +kernel
theorem dX_indexed_0 : decode cX_indexed 0 = .ok (.lload_n 1, 1) := by decide +kernel
theorem dX_indexed_1 : decode cX_indexed 1 = .ok (.bipush 18, 2) := by decide +kernel
theorem dX_indexed_3 : decode cX_indexed 3 = .ok (.lushr, 1) := by decide +kernel
theorem dX_indexed_4 : decode cX_indexed 4 = .ok (.l2i, 1) := by decide +kernel
theorem dX_indexed_5 : decode cX_indexed 5 = .ok (.bipush 15, 2) := by decide +kernel
theorem dX_indexed_7 : decode cX_indexed 7 = .ok (.iand, 1) := by decide +kernel
theorem dX_indexed_8 : decode cX_indexed 8 = .ok (.istore_n 3, 1) := by decide +kernel
theorem dX_indexed_9 : decode cX_indexed 9 = .ok (.lload_n 1, 1) := by decide +kernel
theorem dX_indexed_10 : decode cX_indexed 10 = .ok (.invokestatic 164, 3) := by decide +kernel
theorem dX_indexed_13 : decode cX_indexed 13 = .ok (.istore 4, 2) := by decide +kernel
theorem dX_indexed_15 : decode cX_indexed 15 = .ok (.iload_n 3, 1) := by decide +kernel
theorem dX_indexed_16 : decode cX_indexed 16 = .ok (.ifCond .ne 8, 3) := by decide +kernel
theorem dX_indexed_19 : decode cX_indexed 19 = .ok (.iload 4, 2) := by decide +kernel
theorem dX_indexed_21 : decode cX_indexed 21 = .ok (.goto 18, 3) := by decide +kernel
theorem dX_indexed_24 : decode cX_indexed 24 = .ok (.iload 4, 2) := by decide +kernel
theorem dX_indexed_26 : decode cX_indexed 26 = .ok (.aload_n 0, 1) := by decide +kernel
theorem dX_indexed_27 : decode cX_indexed 27 = .ok (.getfield 9, 3) := by decide +kernel
theorem dX_indexed_30 : decode cX_indexed 30 = .ok (.iload_n 3, 1) := by decide +kernel
theorem dX_indexed_31 : decode cX_indexed 31 = .ok (.laload, 1) := by decide +kernel
theorem dX_indexed_32 : decode cX_indexed 32 = .ok (.invokestatic 164, 3) := by decide +kernel
theorem dX_indexed_35 : decode cX_indexed 35 = .ok (.iadd, 1) := by decide +kernel
theorem dX_indexed_36 : decode cX_indexed 36 = .ok (.invokestatic 77, 3) := by decide +kernel
theorem dX_indexed_39 : decode cX_indexed 39 = .ok (.ireturn, 1) := by decide +kernel
theorem dX_isIndirect_0 : decode cX_isIndirect 0 = .ok (.lload_n 0, 1) := by decide +kernel
theorem dX_isIndirect_1 : decode cX_isIndirect 1 = .ok (.bipush 22, 2) := by decide +kernel
theorem dX_isIndirect_3 : decode cX_isIndirect 3 = .ok (.lushr, 1) := by decide +kernel
theorem dX_isIndirect_4 : decode cX_isIndirect 4 = .ok (.lconst 1, 1) := by decide +kernel
theorem dX_isIndirect_5 : decode cX_isIndirect 5 = .ok (.land, 1) := by decide +kernel
theorem dX_isIndirect_6 : decode cX_isIndirect 6 = .ok (.lconst 0, 1) := by decide +kernel
theorem dX_isIndirect_7 : decode cX_isIndirect 7 = .ok (.lcmp, 1) := by decide +kernel
theorem dX_isIndirect_8 : decode cX_isIndirect 8 = .ok (.ifCond .eq 7, 3) := by decide +kernel
theorem dX_isIndirect_11 : decode cX_isIndirect 11 = .ok (.iconst 1, 1) := by decide +kernel
theorem dX_isIndirect_12 : decode cX_isIndirect 12 = .ok (.goto 4, 3) := by decide +kernel
theorem dX_isIndirect_15 : decode cX_isIndirect 15 = .ok (.iconst 0, 1) := by decide +kernel
theorem dX_isIndirect_16 : decode cX_isIndirect 16 = .ok (.ireturn, 1) := by decide +kernel
theorem dX_operation_0 : decode cX_operation 0 = .ok (.lload_n 0, 1) := by decide +kernel
theorem dX_operation_1 : decode cX_operation 1 = .ok (.bipush 27, 2) := by decide +kernel
theorem dX_operation_3 : decode cX_operation 3 = .ok (.lushr, 1) := by decide +kernel
theorem dX_operation_4 : decode cX_operation 4 = .ok (.l2i, 1) := by decide +kernel
theorem dX_operation_5 : decode cX_operation 5 = .ok (.sipush 511, 3) := by decide +kernel
theorem dX_operation_8 : decode cX_operation 8 = .ok (.iand, 1) := by decide +kernel
theorem dX_operation_9 : decode cX_operation 9 = .ok (.ireturn, 1) := by decide +kernel
theorem dX_accumulator_0 : decode cX_accumulator 0 = .ok (.lload_n 0, 1) := by decide +kernel
theorem dX_accumulator_1 : decode cX_accumulator 1 = .ok (.bipush 23, 2) := by decide +kernel
theorem dX_accumulator_3 : decode cX_accumulator 3 = .ok (.lushr, 1) := by decide +kernel
theorem dX_accumulator_4 : decode cX_accumulator 4 = .ok (.l2i, 1) := by decide +kernel
theorem dX_accumulator_5 : decode cX_accumulator 5 = .ok (.bipush 15, 2) := by decide +kernel
theorem dX_accumulator_7 : decode cX_accumulator 7 = .ok (.iand, 1) := by decide +kernel
theorem dX_accumulator_8 : decode cX_accumulator 8 = .ok (.ireturn, 1) := by decide +kernel
theorem dX_wrapped_0 : decode cX_wrapped 0 = .ok (.iload_n 0, 1) := by decide +kernel
theorem dX_wrapped_1 : decode cX_wrapped 1 = .ok (.ldc 41, 2) := by decide +kernel
theorem dX_wrapped_3 : decode cX_wrapped 3 = .ok (.iand, 1) := by decide +kernel
theorem dX_wrapped_4 : decode cX_wrapped 4 = .ok (.ireturn, 1) := by decide +kernel
theorem dX_skipIf_0 : decode cX_skipIf 0 = .ok (.iload_n 1, 1) := by decide +kernel
theorem dX_skipIf_1 : decode cX_skipIf 1 = .ok (.ifCond .eq 16, 3) := by decide +kernel
theorem dX_skipIf_4 : decode cX_skipIf 4 = .ok (.aload_n 0, 1) := by decide +kernel
theorem dX_skipIf_5 : decode cX_skipIf 5 = .ok (.aload_n 0, 1) := by decide +kernel
theorem dX_skipIf_6 : decode cX_skipIf 6 = .ok (.getfield 42, 3) := by decide +kernel
theorem dX_skipIf_9 : decode cX_skipIf 9 = .ok (.iconst 1, 1) := by decide +kernel
theorem dX_skipIf_10 : decode cX_skipIf 10 = .ok (.iadd, 1) := by decide +kernel
theorem dX_skipIf_11 : decode cX_skipIf 11 = .ok (.invokestatic 77, 3) := by decide +kernel
theorem dX_skipIf_14 : decode cX_skipIf 14 = .ok (.putfield 42, 3) := by decide +kernel
theorem dX_skipIf_17 : decode cX_skipIf 17 = .ok (.return_, 1) := by decide +kernel
theorem dX_jumpIf_0 : decode cX_jumpIf 0 = .ok (.iload_n 1, 1) := by decide +kernel
theorem dX_jumpIf_1 : decode cX_jumpIf 1 = .ok (.ifCond .eq 8, 3) := by decide +kernel
theorem dX_jumpIf_4 : decode cX_jumpIf 4 = .ok (.aload_n 0, 1) := by decide +kernel
theorem dX_jumpIf_5 : decode cX_jumpIf 5 = .ok (.iload_n 2, 1) := by decide +kernel
theorem dX_jumpIf_6 : decode cX_jumpIf 6 = .ok (.putfield 42, 3) := by decide +kernel
theorem dX_jumpIf_9 : decode cX_jumpIf 9 = .ok (.return_, 1) := by decide +kernel
theorem dX_left_0 : decode cX_left 0 = .ok (.lload_n 0, 1) := by decide +kernel
theorem dX_left_1 : decode cX_left 1 = .ok (.bipush 18, 2) := by decide +kernel
theorem dX_left_3 : decode cX_left 3 = .ok (.lushr, 1) := by decide +kernel
theorem dX_left_4 : decode cX_left 4 = .ok (.l2i, 1) := by decide +kernel
theorem dX_left_5 : decode cX_left 5 = .ok (.ldc 41, 2) := by decide +kernel
theorem dX_left_7 : decode cX_left 7 = .ok (.iand, 1) := by decide +kernel
theorem dX_left_8 : decode cX_left 8 = .ok (.ireturn, 1) := by decide +kernel
theorem dX_right_0 : decode cX_right 0 = .ok (.lload_n 0, 1) := by decide +kernel
theorem dX_right_1 : decode cX_right 1 = .ok (.l2i, 1) := by decide +kernel
theorem dX_right_2 : decode cX_right 2 = .ok (.ldc 41, 2) := by decide +kernel
theorem dX_right_4 : decode cX_right 4 = .ok (.iand, 1) := by decide +kernel
theorem dX_right_5 : decode cX_right 5 = .ok (.ireturn, 1) := by decide +kernel
theorem dX_joined_0 : decode cX_joined 0 = .ok (.iload_n 0, 1) := by decide +kernel
theorem dX_joined_1 : decode cX_joined 1 = .ok (.i2l, 1) := by decide +kernel
theorem dX_joined_2 : decode cX_joined 2 = .ok (.bipush 18, 2) := by decide +kernel
theorem dX_joined_4 : decode cX_joined 4 = .ok (.lshl, 1) := by decide +kernel
theorem dX_joined_5 : decode cX_joined 5 = .ok (.iload_n 1, 1) := by decide +kernel
theorem dX_joined_6 : decode cX_joined 6 = .ok (.i2l, 1) := by decide +kernel
theorem dX_joined_7 : decode cX_joined 7 = .ok (.lor, 1) := by decide +kernel
theorem dX_joined_8 : decode cX_joined 8 = .ok (.lreturn, 1) := by decide +kernel
theorem dX_swapped_0 : decode cX_swapped 0 = .ok (.lload_n 0, 1) := by decide +kernel
theorem dX_swapped_1 : decode cX_swapped 1 = .ok (.invokestatic 164, 3) := by decide +kernel
theorem dX_swapped_4 : decode cX_swapped 4 = .ok (.lload_n 0, 1) := by decide +kernel
theorem dX_swapped_5 : decode cX_swapped 5 = .ok (.invokestatic 167, 3) := by decide +kernel
theorem dX_swapped_8 : decode cX_swapped 8 = .ok (.invokestatic 106, 3) := by decide +kernel
theorem dX_swapped_11 : decode cX_swapped 11 = .ok (.lreturn, 1) := by decide +kernel
theorem dX_signed_0 : decode cX_signed 0 = .ok (.lload_n 0, 1) := by decide +kernel
theorem dX_signed_1 : decode cX_signed 1 = .ok (.bipush 28, 2) := by decide +kernel
theorem dX_signed_3 : decode cX_signed 3 = .ok (.lshl, 1) := by decide +kernel
theorem dX_signed_4 : decode cX_signed 4 = .ok (.bipush 28, 2) := by decide +kernel
theorem dX_signed_6 : decode cX_signed 6 = .ok (.lshr, 1) := by decide +kernel
theorem dX_signed_7 : decode cX_signed 7 = .ok (.lreturn, 1) := by decide +kernel
theorem dX_fitted_0 : decode cX_fitted 0 = .ok (.lload_n 1, 1) := by decide +kernel
theorem dX_fitted_1 : decode cX_fitted 1 = .ok (.ldc2_w 17, 3) := by decide +kernel
theorem dX_fitted_4 : decode cX_fitted 4 = .ok (.land, 1) := by decide +kernel
theorem dX_fitted_5 : decode cX_fitted 5 = .ok (.lstore_n 3, 1) := by decide +kernel
theorem dX_fitted_6 : decode cX_fitted 6 = .ok (.lload_n 3, 1) := by decide +kernel
theorem dX_fitted_7 : decode cX_fitted 7 = .ok (.invokestatic 21, 3) := by decide +kernel
theorem dX_fitted_10 : decode cX_fitted 10 = .ok (.lload_n 1, 1) := by decide +kernel
theorem dX_fitted_11 : decode cX_fitted 11 = .ok (.lcmp, 1) := by decide +kernel
theorem dX_fitted_12 : decode cX_fitted 12 = .ok (.ifCond .eq 7, 3) := by decide +kernel
theorem dX_fitted_15 : decode cX_fitted 15 = .ok (.aload_n 0, 1) := by decide +kernel
theorem dX_fitted_16 : decode cX_fitted 16 = .ok (.invokevirtual 170, 3) := by decide +kernel
theorem dX_fitted_19 : decode cX_fitted 19 = .ok (.lload_n 3, 1) := by decide +kernel
theorem dX_fitted_20 : decode cX_fitted 20 = .ok (.lreturn, 1) := by decide +kernel
theorem dX_source_0 : decode cX_source 0 = .ok (.iload_n 1, 1) := by decide +kernel
theorem dX_source_1 : decode cX_source 1 = .ok (.iconst 1, 1) := by decide +kernel
theorem dX_source_2 : decode cX_source 2 = .ok (.if_icmp .ne 8, 3) := by decide +kernel
theorem dX_source_5 : decode cX_source 5 = .ok (.iload_n 2, 1) := by decide +kernel
theorem dX_source_6 : decode cX_source 6 = .ok (.i2l, 1) := by decide +kernel
theorem dX_source_7 : decode cX_source 7 = .ok (.goto 8, 3) := by decide +kernel
theorem dX_source_10 : decode cX_source 10 = .ok (.aload_n 0, 1) := by decide +kernel
theorem dX_source_11 : decode cX_source 11 = .ok (.iload_n 2, 1) := by decide +kernel
theorem dX_source_12 : decode cX_source 12 = .ok (.invokevirtual 73, 3) := by decide +kernel
theorem dX_source_15 : decode cX_source 15 = .ok (.lreturn, 1) := by decide +kernel
theorem dX_movedSource_0 : decode cX_movedSource 0 = .ok (.iload_n 1, 1) := by decide +kernel
theorem dX_movedSource_1 : decode cX_movedSource 1 = .ok (.iconst 2, 1) := by decide +kernel
theorem dX_movedSource_2 : decode cX_movedSource 2 = .ok (.if_icmp .ne 12, 3) := by decide +kernel
theorem dX_movedSource_5 : decode cX_movedSource 5 = .ok (.aload_n 0, 1) := by decide +kernel
theorem dX_movedSource_6 : decode cX_movedSource 6 = .ok (.getfield 9, 3) := by decide +kernel
theorem dX_movedSource_9 : decode cX_movedSource 9 = .ok (.iload_n 2, 1) := by decide +kernel
theorem dX_movedSource_10 : decode cX_movedSource 10 = .ok (.laload, 1) := by decide +kernel
theorem dX_movedSource_11 : decode cX_movedSource 11 = .ok (.goto 9, 3) := by decide +kernel
theorem dX_movedSource_14 : decode cX_movedSource 14 = .ok (.aload_n 0, 1) := by decide +kernel
theorem dX_movedSource_15 : decode cX_movedSource 15 = .ok (.iload_n 1, 1) := by decide +kernel
theorem dX_movedSource_16 : decode cX_movedSource 16 = .ok (.iload_n 3, 1) := by decide +kernel
theorem dX_movedSource_17 : decode cX_movedSource 17 = .ok (.invokevirtual 173, 3) := by decide +kernel
theorem dX_movedSource_20 : decode cX_movedSource 20 = .ok (.lreturn, 1) := by decide +kernel
theorem dX_putMoved_0 : decode cX_putMoved 0 = .ok (.iload_n 1, 1) := by decide +kernel
theorem dX_putMoved_1 : decode cX_putMoved 1 = .ok (.iconst 2, 1) := by decide +kernel
theorem dX_putMoved_2 : decode cX_putMoved 2 = .ok (.if_icmp .ne 13, 3) := by decide +kernel
theorem dX_putMoved_5 : decode cX_putMoved 5 = .ok (.aload_n 0, 1) := by decide +kernel
theorem dX_putMoved_6 : decode cX_putMoved 6 = .ok (.iload_n 3, 1) := by decide +kernel
theorem dX_putMoved_7 : decode cX_putMoved 7 = .ok (.lload 4, 2) := by decide +kernel
theorem dX_putMoved_9 : decode cX_putMoved 9 = .ok (.invokevirtual 176, 3) := by decide +kernel
theorem dX_putMoved_12 : decode cX_putMoved 12 = .ok (.goto 32, 3) := by decide +kernel
theorem dX_putMoved_15 : decode cX_putMoved 15 = .ok (.iload_n 1, 1) := by decide +kernel
theorem dX_putMoved_16 : decode cX_putMoved 16 = .ok (.iconst 3, 1) := by decide +kernel
theorem dX_putMoved_17 : decode cX_putMoved 17 = .ok (.if_icmp .ne 20, 3) := by decide +kernel
theorem dX_putMoved_20 : decode cX_putMoved 20 = .ok (.aload_n 0, 1) := by decide +kernel
theorem dX_putMoved_21 : decode cX_putMoved 21 = .ok (.iload_n 3, 1) := by decide +kernel
theorem dX_putMoved_22 : decode cX_putMoved 22 = .ok (.lload 4, 2) := by decide +kernel
theorem dX_putMoved_24 : decode cX_putMoved 24 = .ok (.invokevirtual 176, 3) := by decide +kernel
theorem dX_putMoved_27 : decode cX_putMoved 27 = .ok (.aload_n 0, 1) := by decide +kernel
theorem dX_putMoved_28 : decode cX_putMoved 28 = .ok (.iload_n 2, 1) := by decide +kernel
theorem dX_putMoved_29 : decode cX_putMoved 29 = .ok (.lload 4, 2) := by decide +kernel
theorem dX_putMoved_31 : decode cX_putMoved 31 = .ok (.invokevirtual 179, 3) := by decide +kernel
theorem dX_putMoved_34 : decode cX_putMoved 34 = .ok (.goto 10, 3) := by decide +kernel
theorem dX_putMoved_37 : decode cX_putMoved 37 = .ok (.aload_n 0, 1) := by decide +kernel
theorem dX_putMoved_38 : decode cX_putMoved 38 = .ok (.iload_n 2, 1) := by decide +kernel
theorem dX_putMoved_39 : decode cX_putMoved 39 = .ok (.lload 4, 2) := by decide +kernel
theorem dX_putMoved_41 : decode cX_putMoved 41 = .ok (.invokevirtual 153, 3) := by decide +kernel
theorem dX_putMoved_44 : decode cX_putMoved 44 = .ok (.return_, 1) := by decide +kernel
theorem dX_putResult_0 : decode cX_putResult 0 = .ok (.iload_n 1, 1) := by decide +kernel
theorem dX_putResult_1 : decode cX_putResult 1 = .ok (.iconst 2, 1) := by decide +kernel
theorem dX_putResult_2 : decode cX_putResult 2 = .ok (.if_icmp .lt 10, 3) := by decide +kernel
theorem dX_putResult_5 : decode cX_putResult 5 = .ok (.aload_n 0, 1) := by decide +kernel
theorem dX_putResult_6 : decode cX_putResult 6 = .ok (.iload_n 3, 1) := by decide +kernel
theorem dX_putResult_7 : decode cX_putResult 7 = .ok (.lload 4, 2) := by decide +kernel
theorem dX_putResult_9 : decode cX_putResult 9 = .ok (.invokevirtual 176, 3) := by decide +kernel
theorem dX_putResult_12 : decode cX_putResult 12 = .ok (.iload_n 1, 1) := by decide +kernel
theorem dX_putResult_13 : decode cX_putResult 13 = .ok (.iconst 2, 1) := by decide +kernel
theorem dX_putResult_14 : decode cX_putResult 14 = .ok (.if_icmp .eq 10, 3) := by decide +kernel
theorem dX_putResult_17 : decode cX_putResult 17 = .ok (.aload_n 0, 1) := by decide +kernel
theorem dX_putResult_18 : decode cX_putResult 18 = .ok (.iload_n 2, 1) := by decide +kernel
theorem dX_putResult_19 : decode cX_putResult 19 = .ok (.lload 4, 2) := by decide +kernel
theorem dX_putResult_21 : decode cX_putResult 21 = .ok (.invokevirtual 153, 3) := by decide +kernel
theorem dX_putResult_24 : decode cX_putResult 24 = .ok (.return_, 1) := by decide +kernel
theorem dX_move_0 : decode cX_move 0 = .ok (.iload_n 1, 1) := by decide +kernel
theorem dX_move_1 : decode cX_move 1 = .ok (.iconst 3, 1) := by decide +kernel
theorem dX_move_2 : decode cX_move 2 = .ok (.iand, 1) := by decide +kernel
theorem dX_move_3 : decode cX_move 3 = .ok (.istore 4, 2) := by decide +kernel
theorem dX_move_5 : decode cX_move 5 = .ok (.aload_n 0, 1) := by decide +kernel
theorem dX_move_6 : decode cX_move 6 = .ok (.iload 4, 2) := by decide +kernel
theorem dX_move_8 : decode cX_move 8 = .ok (.iload_n 2, 1) := by decide +kernel
theorem dX_move_9 : decode cX_move 9 = .ok (.iload_n 3, 1) := by decide +kernel
theorem dX_move_10 : decode cX_move 10 = .ok (.invokevirtual 182, 3) := by decide +kernel
theorem dX_move_13 : decode cX_move 13 = .ok (.lstore 5, 2) := by decide +kernel
theorem dX_move_15 : decode cX_move 15 = .ok (.aload_n 0, 1) := by decide +kernel
theorem dX_move_16 : decode cX_move 16 = .ok (.iload 4, 2) := by decide +kernel
theorem dX_move_18 : decode cX_move 18 = .ok (.iload_n 2, 1) := by decide +kernel
theorem dX_move_19 : decode cX_move 19 = .ok (.iload_n 3, 1) := by decide +kernel
theorem dX_move_20 : decode cX_move 20 = .ok (.aload_n 0, 1) := by decide +kernel
theorem dX_move_21 : decode cX_move 21 = .ok (.iload_n 1, 1) := by decide +kernel
theorem dX_move_22 : decode cX_move 22 = .ok (.iconst 2, 1) := by decide +kernel
theorem dX_move_23 : decode cX_move 23 = .ok (.ishr, 1) := by decide +kernel
theorem dX_move_24 : decode cX_move 24 = .ok (.iconst 3, 1) := by decide +kernel
theorem dX_move_25 : decode cX_move 25 = .ok (.iand, 1) := by decide +kernel
theorem dX_move_26 : decode cX_move 26 = .ok (.lload 5, 2) := by decide +kernel
theorem dX_move_28 : decode cX_move 28 = .ok (.invokevirtual 186, 3) := by decide +kernel
theorem dX_move_31 : decode cX_move 31 = .ok (.invokevirtual 190, 3) := by decide +kernel
theorem dX_move_34 : decode cX_move 34 = .ok (.return_, 1) := by decide +kernel
end
section
theorem dX_changedToMove_0 : decode cX_changedToMove 0 = .ok (.iload_n 1, 1) := by decide +kernel
theorem dX_changedToMove_1 : decode cX_changedToMove 1 = .ok (.tableswitch 44 0 2 #[27, 29, 34], 27) := by decide +kernel
theorem dX_changedToMove_28 : decode cX_changedToMove 28 = .ok (.lload_n 2, 1) := by decide +kernel
theorem dX_changedToMove_29 : decode cX_changedToMove 29 = .ok (.lreturn, 1) := by decide +kernel
theorem dX_changedToMove_30 : decode cX_changedToMove 30 = .ok (.lload_n 2, 1) := by decide +kernel
theorem dX_changedToMove_31 : decode cX_changedToMove 31 = .ok (.invokestatic 194, 3) := by decide +kernel
theorem dX_changedToMove_34 : decode cX_changedToMove 34 = .ok (.lreturn, 1) := by decide +kernel
theorem dX_changedToMove_35 : decode cX_changedToMove 35 = .ok (.aload_n 0, 1) := by decide +kernel
theorem dX_changedToMove_36 : decode cX_changedToMove 36 = .ok (.lload_n 2, 1) := by decide +kernel
theorem dX_changedToMove_37 : decode cX_changedToMove 37 = .ok (.invokestatic 21, 3) := by decide +kernel
theorem dX_changedToMove_40 : decode cX_changedToMove 40 = .ok (.lneg, 1) := by decide +kernel
theorem dX_changedToMove_41 : decode cX_changedToMove 41 = .ok (.invokevirtual 197, 3) := by decide +kernel
theorem dX_changedToMove_44 : decode cX_changedToMove 44 = .ok (.lreturn, 1) := by decide +kernel
theorem dX_changedToMove_45 : decode cX_changedToMove 45 = .ok (.aload_n 0, 1) := by decide +kernel
theorem dX_changedToMove_46 : decode cX_changedToMove 46 = .ok (.lload_n 2, 1) := by decide +kernel
theorem dX_changedToMove_47 : decode cX_changedToMove 47 = .ok (.invokestatic 21, 3) := by decide +kernel
theorem dX_changedToMove_50 : decode cX_changedToMove 50 = .ok (.invokestatic 200, 3) := by decide +kernel
theorem dX_changedToMove_53 : decode cX_changedToMove 53 = .ok (.invokevirtual 197, 3) := by decide +kernel
theorem dX_changedToMove_56 : decode cX_changedToMove 56 = .ok (.lreturn, 1) := by decide +kernel
theorem dX_sum_0 : decode cX_sum 0 = .ok (.iload_n 1, 1) := by decide +kernel
theorem dX_sum_1 : decode cX_sum 1 = .ok (.iconst 3, 1) := by decide +kernel
theorem dX_sum_2 : decode cX_sum 2 = .ok (.iand, 1) := by decide +kernel
theorem dX_sum_3 : decode cX_sum 3 = .ok (.istore 4, 2) := by decide +kernel
theorem dX_sum_5 : decode cX_sum 5 = .ok (.aload_n 0, 1) := by decide +kernel
theorem dX_sum_6 : decode cX_sum 6 = .ok (.getfield 9, 3) := by decide +kernel
theorem dX_sum_9 : decode cX_sum 9 = .ok (.iload_n 2, 1) := by decide +kernel
theorem dX_sum_10 : decode cX_sum 10 = .ok (.laload, 1) := by decide +kernel
theorem dX_sum_11 : decode cX_sum 11 = .ok (.invokestatic 21, 3) := by decide +kernel
theorem dX_sum_14 : decode cX_sum 14 = .ok (.lstore 5, 2) := by decide +kernel
theorem dX_sum_16 : decode cX_sum 16 = .ok (.aload_n 0, 1) := by decide +kernel
theorem dX_sum_17 : decode cX_sum 17 = .ok (.iload 4, 2) := by decide +kernel
theorem dX_sum_19 : decode cX_sum 19 = .ok (.iload_n 3, 1) := by decide +kernel
theorem dX_sum_20 : decode cX_sum 20 = .ok (.invokevirtual 173, 3) := by decide +kernel
theorem dX_sum_23 : decode cX_sum 23 = .ok (.invokestatic 21, 3) := by decide +kernel
theorem dX_sum_26 : decode cX_sum 26 = .ok (.lstore 7, 2) := by decide +kernel
theorem dX_sum_28 : decode cX_sum 28 = .ok (.iload_n 1, 1) := by decide +kernel
theorem dX_sum_29 : decode cX_sum 29 = .ok (.iconst 4, 1) := by decide +kernel
theorem dX_sum_30 : decode cX_sum 30 = .ok (.iand, 1) := by decide +kernel
theorem dX_sum_31 : decode cX_sum 31 = .ok (.ifCond .ne 7, 3) := by decide +kernel
theorem dX_sum_34 : decode cX_sum 34 = .ok (.iconst 1, 1) := by decide +kernel
theorem dX_sum_35 : decode cX_sum 35 = .ok (.goto 4, 3) := by decide +kernel
theorem dX_sum_38 : decode cX_sum 38 = .ok (.iconst 0, 1) := by decide +kernel
theorem dX_sum_39 : decode cX_sum 39 = .ok (.istore 9, 2) := by decide +kernel
theorem dX_sum_41 : decode cX_sum 41 = .ok (.aload_n 0, 1) := by decide +kernel
theorem dX_sum_42 : decode cX_sum 42 = .ok (.iload 4, 2) := by decide +kernel
theorem dX_sum_44 : decode cX_sum 44 = .ok (.iload_n 2, 1) := by decide +kernel
theorem dX_sum_45 : decode cX_sum 45 = .ok (.iload_n 3, 1) := by decide +kernel
theorem dX_sum_46 : decode cX_sum 46 = .ok (.aload_n 0, 1) := by decide +kernel
theorem dX_sum_47 : decode cX_sum 47 = .ok (.iload 9, 2) := by decide +kernel
theorem dX_sum_49 : decode cX_sum 49 = .ok (.ifCond .eq 11, 3) := by decide +kernel
theorem dX_sum_52 : decode cX_sum 52 = .ok (.lload 5, 2) := by decide +kernel
theorem dX_sum_54 : decode cX_sum 54 = .ok (.lload 7, 2) := by decide +kernel
theorem dX_sum_56 : decode cX_sum 56 = .ok (.ladd, 1) := by decide +kernel
theorem dX_sum_57 : decode cX_sum 57 = .ok (.goto 8, 3) := by decide +kernel
theorem dX_sum_60 : decode cX_sum 60 = .ok (.lload 5, 2) := by decide +kernel
theorem dX_sum_62 : decode cX_sum 62 = .ok (.lload 7, 2) := by decide +kernel
theorem dX_sum_64 : decode cX_sum 64 = .ok (.lsub, 1) := by decide +kernel
theorem dX_sum_65 : decode cX_sum 65 = .ok (.invokevirtual 197, 3) := by decide +kernel
theorem dX_sum_68 : decode cX_sum 68 = .ok (.invokevirtual 205, 3) := by decide +kernel
theorem dX_sum_71 : decode cX_sum 71 = .ok (.return_, 1) := by decide +kernel
theorem dX_multiply_0 : decode cX_multiply 0 = .ok (.iload_n 1, 1) := by decide +kernel
theorem dX_multiply_1 : decode cX_multiply 1 = .ok (.iconst 4, 1) := by decide +kernel
theorem dX_multiply_2 : decode cX_multiply 2 = .ok (.iand, 1) := by decide +kernel
theorem dX_multiply_3 : decode cX_multiply 3 = .ok (.ifCond .eq 9, 3) := by decide +kernel
theorem dX_multiply_6 : decode cX_multiply 6 = .ok (.aload_n 0, 1) := by decide +kernel
theorem dX_multiply_7 : decode cX_multiply 7 = .ok (.iconst 2, 1) := by decide +kernel
theorem dX_multiply_8 : decode cX_multiply 8 = .ok (.invokevirtual 147, 3) := by decide +kernel
theorem dX_multiply_11 : decode cX_multiply 11 = .ok (.return_, 1) := by decide +kernel
theorem dX_multiply_12 : decode cX_multiply 12 = .ok (.iload_n 1, 1) := by decide +kernel
theorem dX_multiply_13 : decode cX_multiply 13 = .ok (.iconst 3, 1) := by decide +kernel
theorem dX_multiply_14 : decode cX_multiply 14 = .ok (.iand, 1) := by decide +kernel
theorem dX_multiply_15 : decode cX_multiply 15 = .ok (.istore 4, 2) := by decide +kernel
theorem dX_multiply_17 : decode cX_multiply 17 = .ok (.aload_n 0, 1) := by decide +kernel
theorem dX_multiply_18 : decode cX_multiply 18 = .ok (.getfield 9, 3) := by decide +kernel
theorem dX_multiply_21 : decode cX_multiply 21 = .ok (.iload_n 2, 1) := by decide +kernel
theorem dX_multiply_22 : decode cX_multiply 22 = .ok (.laload, 1) := by decide +kernel
theorem dX_multiply_23 : decode cX_multiply 23 = .ok (.invokestatic 21, 3) := by decide +kernel
theorem dX_multiply_26 : decode cX_multiply 26 = .ok (.lstore 5, 2) := by decide +kernel
theorem dX_multiply_28 : decode cX_multiply 28 = .ok (.aload_n 0, 1) := by decide +kernel
theorem dX_multiply_29 : decode cX_multiply 29 = .ok (.iload 4, 2) := by decide +kernel
theorem dX_multiply_31 : decode cX_multiply 31 = .ok (.iload_n 3, 1) := by decide +kernel
theorem dX_multiply_32 : decode cX_multiply 32 = .ok (.invokevirtual 173, 3) := by decide +kernel
theorem dX_multiply_35 : decode cX_multiply 35 = .ok (.invokestatic 21, 3) := by decide +kernel
theorem dX_multiply_38 : decode cX_multiply 38 = .ok (.lstore 7, 2) := by decide +kernel
theorem dX_multiply_40 : decode cX_multiply 40 = .ok (.lload 5, 2) := by decide +kernel
theorem dX_multiply_42 : decode cX_multiply 42 = .ok (.lload 7, 2) := by decide +kernel
theorem dX_multiply_44 : decode cX_multiply 44 = .ok (.invokestatic 208, 3) := by decide +kernel
theorem dX_multiply_47 : decode cX_multiply 47 = .ok (.ifCond .ne 7, 3) := by decide +kernel
theorem dX_multiply_50 : decode cX_multiply 50 = .ok (.aload_n 0, 1) := by decide +kernel
theorem dX_multiply_51 : decode cX_multiply 51 = .ok (.invokevirtual 170, 3) := by decide +kernel
theorem dX_multiply_54 : decode cX_multiply 54 = .ok (.aload_n 0, 1) := by decide +kernel
theorem dX_multiply_55 : decode cX_multiply 55 = .ok (.iload 4, 2) := by decide +kernel
theorem dX_multiply_57 : decode cX_multiply 57 = .ok (.iload_n 2, 1) := by decide +kernel
theorem dX_multiply_58 : decode cX_multiply 58 = .ok (.iload_n 3, 1) := by decide +kernel
theorem dX_multiply_59 : decode cX_multiply 59 = .ok (.lload 5, 2) := by decide +kernel
theorem dX_multiply_61 : decode cX_multiply 61 = .ok (.lload 7, 2) := by decide +kernel
theorem dX_multiply_63 : decode cX_multiply 63 = .ok (.lmul, 1) := by decide +kernel
theorem dX_multiply_64 : decode cX_multiply 64 = .ok (.ldc2_w 17, 3) := by decide +kernel
theorem dX_multiply_67 : decode cX_multiply 67 = .ok (.land, 1) := by decide +kernel
theorem dX_multiply_68 : decode cX_multiply 68 = .ok (.invokevirtual 205, 3) := by decide +kernel
theorem dX_multiply_71 : decode cX_multiply 71 = .ok (.return_, 1) := by decide +kernel
theorem dX_productFits_0 : decode cX_productFits 0 = .ok (.lload_n 0, 1) := by decide +kernel
theorem dX_productFits_1 : decode cX_productFits 1 = .ok (.lload_n 2, 1) := by decide +kernel
theorem dX_productFits_2 : decode cX_productFits 2 = .ok (.bipush 18, 2) := by decide +kernel
theorem dX_productFits_4 : decode cX_productFits 4 = .ok (.lshr, 1) := by decide +kernel
theorem dX_productFits_5 : decode cX_productFits 5 = .ok (.lmul, 1) := by decide +kernel
theorem dX_productFits_6 : decode cX_productFits 6 = .ok (.lload_n 0, 1) := by decide +kernel
theorem dX_productFits_7 : decode cX_productFits 7 = .ok (.lload_n 2, 1) := by decide +kernel
theorem dX_productFits_8 : decode cX_productFits 8 = .ok (.ldc2_w 212, 3) := by decide +kernel
theorem dX_productFits_11 : decode cX_productFits 11 = .ok (.land, 1) := by decide +kernel
theorem dX_productFits_12 : decode cX_productFits 12 = .ok (.lmul, 1) := by decide +kernel
theorem dX_productFits_13 : decode cX_productFits 13 = .ok (.bipush 18, 2) := by decide +kernel
theorem dX_productFits_15 : decode cX_productFits 15 = .ok (.lshr, 1) := by decide +kernel
theorem dX_productFits_16 : decode cX_productFits 16 = .ok (.ladd, 1) := by decide +kernel
theorem dX_productFits_17 : decode cX_productFits 17 = .ok (.lstore 4, 2) := by decide +kernel
theorem dX_productFits_19 : decode cX_productFits 19 = .ok (.lload 4, 2) := by decide +kernel
theorem dX_productFits_21 : decode cX_productFits 21 = .ok (.ldc2_w 214, 3) := by decide +kernel
theorem dX_productFits_24 : decode cX_productFits 24 = .ok (.lcmp, 1) := by decide +kernel
theorem dX_productFits_25 : decode cX_productFits 25 = .ok (.ifCond .lt 16, 3) := by decide +kernel
theorem dX_productFits_28 : decode cX_productFits 28 = .ok (.lload 4, 2) := by decide +kernel
theorem dX_productFits_30 : decode cX_productFits 30 = .ok (.ldc2_w 216, 3) := by decide +kernel
theorem dX_productFits_33 : decode cX_productFits 33 = .ok (.lcmp, 1) := by decide +kernel
theorem dX_productFits_34 : decode cX_productFits 34 = .ok (.ifCond .ge 7, 3) := by decide +kernel
theorem dX_productFits_37 : decode cX_productFits 37 = .ok (.iconst 1, 1) := by decide +kernel
theorem dX_productFits_38 : decode cX_productFits 38 = .ok (.goto 4, 3) := by decide +kernel
theorem dX_productFits_41 : decode cX_productFits 41 = .ok (.iconst 0, 1) := by decide +kernel
theorem dX_productFits_42 : decode cX_productFits 42 = .ok (.ireturn, 1) := by decide +kernel
theorem dX_divide_0 : decode cX_divide 0 = .ok (.iload_n 1, 1) := by decide +kernel
theorem dX_divide_1 : decode cX_divide 1 = .ok (.iconst 4, 1) := by decide +kernel
theorem dX_divide_2 : decode cX_divide 2 = .ok (.iand, 1) := by decide +kernel
theorem dX_divide_3 : decode cX_divide 3 = .ok (.ifCond .eq 9, 3) := by decide +kernel
theorem dX_divide_6 : decode cX_divide 6 = .ok (.aload_n 0, 1) := by decide +kernel
theorem dX_divide_7 : decode cX_divide 7 = .ok (.iconst 2, 1) := by decide +kernel
theorem dX_divide_8 : decode cX_divide 8 = .ok (.invokevirtual 147, 3) := by decide +kernel
theorem dX_divide_11 : decode cX_divide 11 = .ok (.return_, 1) := by decide +kernel
theorem dX_divide_12 : decode cX_divide 12 = .ok (.iload_n 1, 1) := by decide +kernel
theorem dX_divide_13 : decode cX_divide 13 = .ok (.iconst 3, 1) := by decide +kernel
theorem dX_divide_14 : decode cX_divide 14 = .ok (.iand, 1) := by decide +kernel
theorem dX_divide_15 : decode cX_divide 15 = .ok (.istore 4, 2) := by decide +kernel
theorem dX_divide_17 : decode cX_divide 17 = .ok (.aload_n 0, 1) := by decide +kernel
theorem dX_divide_18 : decode cX_divide 18 = .ok (.getfield 9, 3) := by decide +kernel
theorem dX_divide_21 : decode cX_divide 21 = .ok (.iload_n 2, 1) := by decide +kernel
theorem dX_divide_22 : decode cX_divide 22 = .ok (.laload, 1) := by decide +kernel
theorem dX_divide_23 : decode cX_divide 23 = .ok (.invokestatic 21, 3) := by decide +kernel
theorem dX_divide_26 : decode cX_divide 26 = .ok (.lstore 5, 2) := by decide +kernel
theorem dX_divide_28 : decode cX_divide 28 = .ok (.aload_n 0, 1) := by decide +kernel
theorem dX_divide_29 : decode cX_divide 29 = .ok (.iload 4, 2) := by decide +kernel
theorem dX_divide_31 : decode cX_divide 31 = .ok (.iload_n 3, 1) := by decide +kernel
theorem dX_divide_32 : decode cX_divide 32 = .ok (.invokevirtual 173, 3) := by decide +kernel
theorem dX_divide_35 : decode cX_divide 35 = .ok (.invokestatic 21, 3) := by decide +kernel
theorem dX_divide_38 : decode cX_divide 38 = .ok (.lstore 7, 2) := by decide +kernel
theorem dX_divide_40 : decode cX_divide 40 = .ok (.lload 7, 2) := by decide +kernel
theorem dX_divide_42 : decode cX_divide 42 = .ok (.lconst 0, 1) := by decide +kernel
theorem dX_divide_43 : decode cX_divide 43 = .ok (.lcmp, 1) := by decide +kernel
theorem dX_divide_44 : decode cX_divide 44 = .ok (.ifCond .eq 21, 3) := by decide +kernel
theorem dX_divide_47 : decode cX_divide 47 = .ok (.lload 5, 2) := by decide +kernel
theorem dX_divide_49 : decode cX_divide 49 = .ok (.ldc2_w 218, 3) := by decide +kernel
theorem dX_divide_52 : decode cX_divide 52 = .ok (.lcmp, 1) := by decide +kernel
theorem dX_divide_53 : decode cX_divide 53 = .ok (.ifCond .ne 17, 3) := by decide +kernel
theorem dX_divide_56 : decode cX_divide 56 = .ok (.lload 7, 2) := by decide +kernel
theorem dX_divide_58 : decode cX_divide 58 = .ok (.ldc2_w 19, 3) := by decide +kernel
theorem dX_divide_61 : decode cX_divide 61 = .ok (.lcmp, 1) := by decide +kernel
theorem dX_divide_62 : decode cX_divide 62 = .ok (.ifCond .ne 8, 3) := by decide +kernel
theorem dX_divide_65 : decode cX_divide 65 = .ok (.aload_n 0, 1) := by decide +kernel
theorem dX_divide_66 : decode cX_divide 66 = .ok (.invokevirtual 170, 3) := by decide +kernel
theorem dX_divide_69 : decode cX_divide 69 = .ok (.return_, 1) := by decide +kernel
theorem dX_divide_70 : decode cX_divide 70 = .ok (.aload_n 0, 1) := by decide +kernel
theorem dX_divide_71 : decode cX_divide 71 = .ok (.iload 4, 2) := by decide +kernel
theorem dX_divide_73 : decode cX_divide 73 = .ok (.iload_n 2, 1) := by decide +kernel
theorem dX_divide_74 : decode cX_divide 74 = .ok (.iload_n 3, 1) := by decide +kernel
theorem dX_divide_75 : decode cX_divide 75 = .ok (.lload 5, 2) := by decide +kernel
theorem dX_divide_77 : decode cX_divide 77 = .ok (.lload 7, 2) := by decide +kernel
theorem dX_divide_79 : decode cX_divide 79 = .ok (.ldiv, 1) := by decide +kernel
theorem dX_divide_80 : decode cX_divide 80 = .ok (.ldc2_w 17, 3) := by decide +kernel
theorem dX_divide_83 : decode cX_divide 83 = .ok (.land, 1) := by decide +kernel
theorem dX_divide_84 : decode cX_divide 84 = .ok (.invokevirtual 205, 3) := by decide +kernel
theorem dX_divide_87 : decode cX_divide 87 = .ok (.iload 4, 2) := by decide +kernel
theorem dX_divide_89 : decode cX_divide 89 = .ok (.iconst 2, 1) := by decide +kernel
theorem dX_divide_90 : decode cX_divide 90 = .ok (.if_icmp .eq 22, 3) := by decide +kernel
theorem dX_divide_93 : decode cX_divide 93 = .ok (.aload_n 0, 1) := by decide +kernel
theorem dX_divide_94 : decode cX_divide 94 = .ok (.iload_n 2, 1) := by decide +kernel
theorem dX_divide_95 : decode cX_divide 95 = .ok (.iconst 1, 1) := by decide +kernel
theorem dX_divide_96 : decode cX_divide 96 = .ok (.iadd, 1) := by decide +kernel
theorem dX_divide_97 : decode cX_divide 97 = .ok (.bipush 15, 2) := by decide +kernel
theorem dX_divide_99 : decode cX_divide 99 = .ok (.iand, 1) := by decide +kernel
theorem dX_divide_100 : decode cX_divide 100 = .ok (.lload 5, 2) := by decide +kernel
theorem dX_divide_102 : decode cX_divide 102 = .ok (.lload 7, 2) := by decide +kernel
theorem dX_divide_104 : decode cX_divide 104 = .ok (.lrem, 1) := by decide +kernel
theorem dX_divide_105 : decode cX_divide 105 = .ok (.ldc2_w 17, 3) := by decide +kernel
theorem dX_divide_108 : decode cX_divide 108 = .ok (.land, 1) := by decide +kernel
theorem dX_divide_109 : decode cX_divide 109 = .ok (.invokevirtual 153, 3) := by decide +kernel
theorem dX_divide_112 : decode cX_divide 112 = .ok (.return_, 1) := by decide +kernel
theorem dX_logic_0 : decode cX_logic 0 = .ok (.iload_n 1, 1) := by decide +kernel
theorem dX_logic_1 : decode cX_logic 1 = .ok (.iconst 3, 1) := by decide +kernel
theorem dX_logic_2 : decode cX_logic 2 = .ok (.iand, 1) := by decide +kernel
theorem dX_logic_3 : decode cX_logic 3 = .ok (.istore 4, 2) := by decide +kernel
theorem dX_logic_5 : decode cX_logic 5 = .ok (.iload_n 1, 1) := by decide +kernel
theorem dX_logic_6 : decode cX_logic 6 = .ok (.iconst 2, 1) := by decide +kernel
theorem dX_logic_7 : decode cX_logic 7 = .ok (.ishr, 1) := by decide +kernel
theorem dX_logic_8 : decode cX_logic 8 = .ok (.bipush 15, 2) := by decide +kernel
theorem dX_logic_10 : decode cX_logic 10 = .ok (.iand, 1) := by decide +kernel
theorem dX_logic_11 : decode cX_logic 11 = .ok (.istore 5, 2) := by decide +kernel
theorem dX_logic_13 : decode cX_logic 13 = .ok (.aload_n 0, 1) := by decide +kernel
theorem dX_logic_14 : decode cX_logic 14 = .ok (.getfield 9, 3) := by decide +kernel
theorem dX_logic_17 : decode cX_logic 17 = .ok (.iload_n 2, 1) := by decide +kernel
theorem dX_logic_18 : decode cX_logic 18 = .ok (.laload, 1) := by decide +kernel
theorem dX_logic_19 : decode cX_logic 19 = .ok (.lstore 6, 2) := by decide +kernel
theorem dX_logic_21 : decode cX_logic 21 = .ok (.aload_n 0, 1) := by decide +kernel
theorem dX_logic_22 : decode cX_logic 22 = .ok (.iload 4, 2) := by decide +kernel
theorem dX_logic_24 : decode cX_logic 24 = .ok (.iload_n 3, 1) := by decide +kernel
theorem dX_logic_25 : decode cX_logic 25 = .ok (.invokevirtual 173, 3) := by decide +kernel
theorem dX_logic_28 : decode cX_logic 28 = .ok (.lstore 8, 2) := by decide +kernel
theorem dX_logic_30 : decode cX_logic 30 = .ok (.lconst 0, 1) := by decide +kernel
theorem dX_logic_31 : decode cX_logic 31 = .ok (.lstore 10, 2) := by decide +kernel
theorem dX_logic_33 : decode cX_logic 33 = .ok (.iload 5, 2) := by decide +kernel
theorem dX_logic_35 : decode cX_logic 35 = .ok (.bipush 8, 2) := by decide +kernel
theorem dX_logic_37 : decode cX_logic 37 = .ok (.iand, 1) := by decide +kernel
theorem dX_logic_38 : decode cX_logic 38 = .ok (.ifCond .eq 21, 3) := by decide +kernel
theorem dX_logic_41 : decode cX_logic 41 = .ok (.lload 10, 2) := by decide +kernel
theorem dX_logic_43 : decode cX_logic 43 = .ok (.lload 6, 2) := by decide +kernel
theorem dX_logic_45 : decode cX_logic 45 = .ok (.ldc2_w 19, 3) := by decide +kernel
theorem dX_logic_48 : decode cX_logic 48 = .ok (.lxor, 1) := by decide +kernel
theorem dX_logic_49 : decode cX_logic 49 = .ok (.lload 8, 2) := by decide +kernel
theorem dX_logic_51 : decode cX_logic 51 = .ok (.ldc2_w 19, 3) := by decide +kernel
theorem dX_logic_54 : decode cX_logic 54 = .ok (.lxor, 1) := by decide +kernel
theorem dX_logic_55 : decode cX_logic 55 = .ok (.land, 1) := by decide +kernel
theorem dX_logic_56 : decode cX_logic 56 = .ok (.lor, 1) := by decide +kernel
theorem dX_logic_57 : decode cX_logic 57 = .ok (.lstore 10, 2) := by decide +kernel
theorem dX_logic_59 : decode cX_logic 59 = .ok (.iload 5, 2) := by decide +kernel
theorem dX_logic_61 : decode cX_logic 61 = .ok (.iconst 4, 1) := by decide +kernel
theorem dX_logic_62 : decode cX_logic 62 = .ok (.iand, 1) := by decide +kernel
theorem dX_logic_63 : decode cX_logic 63 = .ok (.ifCond .eq 17, 3) := by decide +kernel
theorem dX_logic_66 : decode cX_logic 66 = .ok (.lload 10, 2) := by decide +kernel
theorem dX_logic_68 : decode cX_logic 68 = .ok (.lload 6, 2) := by decide +kernel
theorem dX_logic_70 : decode cX_logic 70 = .ok (.ldc2_w 19, 3) := by decide +kernel
theorem dX_logic_73 : decode cX_logic 73 = .ok (.lxor, 1) := by decide +kernel
theorem dX_logic_74 : decode cX_logic 74 = .ok (.lload 8, 2) := by decide +kernel
theorem dX_logic_76 : decode cX_logic 76 = .ok (.land, 1) := by decide +kernel
theorem dX_logic_77 : decode cX_logic 77 = .ok (.lor, 1) := by decide +kernel
theorem dX_logic_78 : decode cX_logic 78 = .ok (.lstore 10, 2) := by decide +kernel
theorem dX_logic_80 : decode cX_logic 80 = .ok (.iload 5, 2) := by decide +kernel
theorem dX_logic_82 : decode cX_logic 82 = .ok (.iconst 2, 1) := by decide +kernel
theorem dX_logic_83 : decode cX_logic 83 = .ok (.iand, 1) := by decide +kernel
theorem dX_logic_84 : decode cX_logic 84 = .ok (.ifCond .eq 17, 3) := by decide +kernel
theorem dX_logic_87 : decode cX_logic 87 = .ok (.lload 10, 2) := by decide +kernel
theorem dX_logic_89 : decode cX_logic 89 = .ok (.lload 6, 2) := by decide +kernel
theorem dX_logic_91 : decode cX_logic 91 = .ok (.lload 8, 2) := by decide +kernel
theorem dX_logic_93 : decode cX_logic 93 = .ok (.ldc2_w 19, 3) := by decide +kernel
theorem dX_logic_96 : decode cX_logic 96 = .ok (.lxor, 1) := by decide +kernel
theorem dX_logic_97 : decode cX_logic 97 = .ok (.land, 1) := by decide +kernel
theorem dX_logic_98 : decode cX_logic 98 = .ok (.lor, 1) := by decide +kernel
theorem dX_logic_99 : decode cX_logic 99 = .ok (.lstore 10, 2) := by decide +kernel
theorem dX_logic_101 : decode cX_logic 101 = .ok (.iload 5, 2) := by decide +kernel
theorem dX_logic_103 : decode cX_logic 103 = .ok (.iconst 1, 1) := by decide +kernel
theorem dX_logic_104 : decode cX_logic 104 = .ok (.iand, 1) := by decide +kernel
theorem dX_logic_105 : decode cX_logic 105 = .ok (.ifCond .eq 13, 3) := by decide +kernel
theorem dX_logic_108 : decode cX_logic 108 = .ok (.lload 10, 2) := by decide +kernel
theorem dX_logic_110 : decode cX_logic 110 = .ok (.lload 6, 2) := by decide +kernel
theorem dX_logic_112 : decode cX_logic 112 = .ok (.lload 8, 2) := by decide +kernel
theorem dX_logic_114 : decode cX_logic 114 = .ok (.land, 1) := by decide +kernel
theorem dX_logic_115 : decode cX_logic 115 = .ok (.lor, 1) := by decide +kernel
theorem dX_logic_116 : decode cX_logic 116 = .ok (.lstore 10, 2) := by decide +kernel
theorem dX_logic_118 : decode cX_logic 118 = .ok (.aload_n 0, 1) := by decide +kernel
theorem dX_logic_119 : decode cX_logic 119 = .ok (.iload 4, 2) := by decide +kernel
theorem dX_logic_121 : decode cX_logic 121 = .ok (.iload_n 2, 1) := by decide +kernel
theorem dX_logic_122 : decode cX_logic 122 = .ok (.iload_n 3, 1) := by decide +kernel
theorem dX_logic_123 : decode cX_logic 123 = .ok (.lload 10, 2) := by decide +kernel
theorem dX_logic_125 : decode cX_logic 125 = .ok (.ldc2_w 17, 3) := by decide +kernel
theorem dX_logic_128 : decode cX_logic 128 = .ok (.land, 1) := by decide +kernel
theorem dX_logic_129 : decode cX_logic 129 = .ok (.invokevirtual 205, 3) := by decide +kernel
theorem dX_logic_132 : decode cX_logic 132 = .ok (.return_, 1) := by decide +kernel
theorem dX_halves_0 : decode cX_halves 0 = .ok (.iload_n 1, 1) := by decide +kernel
theorem dX_halves_1 : decode cX_halves 1 = .ok (.iconst 3, 1) := by decide +kernel
theorem dX_halves_2 : decode cX_halves 2 = .ok (.iand, 1) := by decide +kernel
theorem dX_halves_3 : decode cX_halves 3 = .ok (.istore 4, 2) := by decide +kernel
theorem dX_halves_5 : decode cX_halves 5 = .ok (.iload_n 1, 1) := by decide +kernel
theorem dX_halves_6 : decode cX_halves 6 = .ok (.bipush 32, 2) := by decide +kernel
theorem dX_halves_8 : decode cX_halves 8 = .ok (.iand, 1) := by decide +kernel
theorem dX_halves_9 : decode cX_halves 9 = .ok (.ifCond .eq 7, 3) := by decide +kernel
theorem dX_halves_12 : decode cX_halves 12 = .ok (.iconst 1, 1) := by decide +kernel
theorem dX_halves_13 : decode cX_halves 13 = .ok (.goto 4, 3) := by decide +kernel
theorem dX_halves_16 : decode cX_halves 16 = .ok (.iconst 0, 1) := by decide +kernel
theorem dX_halves_17 : decode cX_halves 17 = .ok (.istore 5, 2) := by decide +kernel
theorem dX_halves_19 : decode cX_halves 19 = .ok (.iload_n 1, 1) := by decide +kernel
theorem dX_halves_20 : decode cX_halves 20 = .ok (.iconst 4, 1) := by decide +kernel
theorem dX_halves_21 : decode cX_halves 21 = .ok (.iand, 1) := by decide +kernel
theorem dX_halves_22 : decode cX_halves 22 = .ok (.ifCond .eq 7, 3) := by decide +kernel
theorem dX_halves_25 : decode cX_halves 25 = .ok (.iconst 1, 1) := by decide +kernel
theorem dX_halves_26 : decode cX_halves 26 = .ok (.goto 4, 3) := by decide +kernel
theorem dX_halves_29 : decode cX_halves 29 = .ok (.iconst 0, 1) := by decide +kernel
theorem dX_halves_30 : decode cX_halves 30 = .ok (.istore 6, 2) := by decide +kernel
theorem dX_halves_32 : decode cX_halves 32 = .ok (.aload_n 0, 1) := by decide +kernel
theorem dX_halves_33 : decode cX_halves 33 = .ok (.iload 4, 2) := by decide +kernel
theorem dX_halves_35 : decode cX_halves 35 = .ok (.iload_n 2, 1) := by decide +kernel
theorem dX_halves_36 : decode cX_halves 36 = .ok (.iload_n 3, 1) := by decide +kernel
theorem dX_halves_37 : decode cX_halves 37 = .ok (.invokevirtual 182, 3) := by decide +kernel
theorem dX_halves_40 : decode cX_halves 40 = .ok (.lstore 7, 2) := by decide +kernel
theorem dX_halves_42 : decode cX_halves 42 = .ok (.iload 4, 2) := by decide +kernel
theorem dX_halves_44 : decode cX_halves 44 = .ok (.iconst 2, 1) := by decide +kernel
theorem dX_halves_45 : decode cX_halves 45 = .ok (.if_icmp .lt 11, 3) := by decide +kernel
theorem dX_halves_48 : decode cX_halves 48 = .ok (.aload_n 0, 1) := by decide +kernel
theorem dX_halves_49 : decode cX_halves 49 = .ok (.iload_n 3, 1) := by decide +kernel
theorem dX_halves_50 : decode cX_halves 50 = .ok (.invokevirtual 73, 3) := by decide +kernel
theorem dX_halves_53 : decode cX_halves 53 = .ok (.goto 9, 3) := by decide +kernel
theorem dX_halves_56 : decode cX_halves 56 = .ok (.aload_n 0, 1) := by decide +kernel
theorem dX_halves_57 : decode cX_halves 57 = .ok (.getfield 9, 3) := by decide +kernel
theorem dX_halves_60 : decode cX_halves 60 = .ok (.iload_n 2, 1) := by decide +kernel
theorem dX_halves_61 : decode cX_halves 61 = .ok (.laload, 1) := by decide +kernel
theorem dX_halves_62 : decode cX_halves 62 = .ok (.lstore 9, 2) := by decide +kernel
theorem dX_halves_64 : decode cX_halves 64 = .ok (.iload 5, 2) := by decide +kernel
theorem dX_halves_66 : decode cX_halves 66 = .ok (.iload 6, 2) := by decide +kernel
theorem dX_halves_68 : decode cX_halves 68 = .ok (.if_icmp .eq 11, 3) := by decide +kernel
theorem dX_halves_71 : decode cX_halves 71 = .ok (.lload 7, 2) := by decide +kernel
theorem dX_halves_73 : decode cX_halves 73 = .ok (.invokestatic 164, 3) := by decide +kernel
theorem dX_halves_76 : decode cX_halves 76 = .ok (.goto 8, 3) := by decide +kernel
theorem dX_halves_79 : decode cX_halves 79 = .ok (.lload 7, 2) := by decide +kernel
theorem dX_halves_81 : decode cX_halves 81 = .ok (.invokestatic 167, 3) := by decide +kernel
theorem dX_halves_84 : decode cX_halves 84 = .ok (.istore 11, 2) := by decide +kernel
theorem dX_halves_86 : decode cX_halves 86 = .ok (.iload_n 1, 1) := by decide +kernel
theorem dX_halves_87 : decode cX_halves 87 = .ok (.iconst 3, 1) := by decide +kernel
theorem dX_halves_88 : decode cX_halves 88 = .ok (.ishr, 1) := by decide +kernel
theorem dX_halves_89 : decode cX_halves 89 = .ok (.iconst 3, 1) := by decide +kernel
theorem dX_halves_90 : decode cX_halves 90 = .ok (.iand, 1) := by decide +kernel
theorem dX_halves_91 : decode cX_halves 91 = .ok (.iload 11, 2) := by decide +kernel
theorem dX_halves_93 : decode cX_halves 93 = .ok (.iload 5, 2) := by decide +kernel
theorem dX_halves_95 : decode cX_halves 95 = .ok (.ifCond .eq 11, 3) := by decide +kernel
theorem dX_halves_98 : decode cX_halves 98 = .ok (.lload 9, 2) := by decide +kernel
theorem dX_halves_100 : decode cX_halves 100 = .ok (.invokestatic 167, 3) := by decide +kernel
theorem dX_halves_103 : decode cX_halves 103 = .ok (.goto 8, 3) := by decide +kernel
theorem dX_halves_106 : decode cX_halves 106 = .ok (.lload 9, 2) := by decide +kernel
theorem dX_halves_108 : decode cX_halves 108 = .ok (.invokestatic 164, 3) := by decide +kernel
theorem dX_halves_111 : decode cX_halves 111 = .ok (.invokestatic 220, 3) := by decide +kernel
theorem dX_halves_114 : decode cX_halves 114 = .ok (.istore 12, 2) := by decide +kernel
theorem dX_halves_116 : decode cX_halves 116 = .ok (.aload_n 0, 1) := by decide +kernel
theorem dX_halves_117 : decode cX_halves 117 = .ok (.iload 4, 2) := by decide +kernel
theorem dX_halves_119 : decode cX_halves 119 = .ok (.iload_n 2, 1) := by decide +kernel
theorem dX_halves_120 : decode cX_halves 120 = .ok (.iload_n 3, 1) := by decide +kernel
theorem dX_halves_121 : decode cX_halves 121 = .ok (.iload 5, 2) := by decide +kernel
theorem dX_halves_123 : decode cX_halves 123 = .ok (.ifCond .eq 13, 3) := by decide +kernel
theorem dX_halves_126 : decode cX_halves 126 = .ok (.iload 12, 2) := by decide +kernel
theorem dX_halves_128 : decode cX_halves 128 = .ok (.iload 11, 2) := by decide +kernel
theorem dX_halves_130 : decode cX_halves 130 = .ok (.invokestatic 106, 3) := by decide +kernel
theorem dX_halves_133 : decode cX_halves 133 = .ok (.goto 10, 3) := by decide +kernel
theorem dX_halves_136 : decode cX_halves 136 = .ok (.iload 11, 2) := by decide +kernel
theorem dX_halves_138 : decode cX_halves 138 = .ok (.iload 12, 2) := by decide +kernel
theorem dX_halves_140 : decode cX_halves 140 = .ok (.invokestatic 106, 3) := by decide +kernel
theorem dX_halves_143 : decode cX_halves 143 = .ok (.invokevirtual 190, 3) := by decide +kernel
theorem dX_halves_146 : decode cX_halves 146 = .ok (.return_, 1) := by decide +kernel
theorem dX_otherHalf_0 : decode cX_otherHalf 0 = .ok (.iload_n 0, 1) := by decide +kernel
theorem dX_otherHalf_1 : decode cX_otherHalf 1 = .ok (.tableswitch 34 0 2 #[27, 29, 31], 27) := by decide +kernel
theorem dX_otherHalf_28 : decode cX_otherHalf 28 = .ok (.iload_n 2, 1) := by decide +kernel
theorem dX_otherHalf_29 : decode cX_otherHalf 29 = .ok (.ireturn, 1) := by decide +kernel
theorem dX_otherHalf_30 : decode cX_otherHalf 30 = .ok (.iconst 0, 1) := by decide +kernel
theorem dX_otherHalf_31 : decode cX_otherHalf 31 = .ok (.ireturn, 1) := by decide +kernel
theorem dX_otherHalf_32 : decode cX_otherHalf 32 = .ok (.ldc 41, 2) := by decide +kernel
theorem dX_otherHalf_34 : decode cX_otherHalf 34 = .ok (.ireturn, 1) := by decide +kernel
theorem dX_otherHalf_35 : decode cX_otherHalf 35 = .ok (.iload_n 1, 1) := by decide +kernel
theorem dX_otherHalf_36 : decode cX_otherHalf 36 = .ok (.ldc 110, 2) := by decide +kernel
theorem dX_otherHalf_38 : decode cX_otherHalf 38 = .ok (.iand, 1) := by decide +kernel
theorem dX_otherHalf_39 : decode cX_otherHalf 39 = .ok (.ifCond .eq 8, 3) := by decide +kernel
theorem dX_otherHalf_42 : decode cX_otherHalf 42 = .ok (.ldc 41, 2) := by decide +kernel
theorem dX_otherHalf_44 : decode cX_otherHalf 44 = .ok (.goto 4, 3) := by decide +kernel
theorem dX_otherHalf_47 : decode cX_otherHalf 47 = .ok (.iconst 0, 1) := by decide +kernel
theorem dX_otherHalf_48 : decode cX_otherHalf 48 = .ok (.ireturn, 1) := by decide +kernel
theorem dX_test_0 : decode cX_test 0 = .ok (.iload_n 1, 1) := by decide +kernel
theorem dX_test_1 : decode cX_test 1 = .ok (.bipush 8, 2) := by decide +kernel
theorem dX_test_3 : decode cX_test 3 = .ok (.iand, 1) := by decide +kernel
theorem dX_test_4 : decode cX_test 4 = .ok (.ifCond .eq 11, 3) := by decide +kernel
theorem dX_test_7 : decode cX_test 7 = .ok (.aload_n 0, 1) := by decide +kernel
theorem dX_test_8 : decode cX_test 8 = .ok (.iload_n 3, 1) := by decide +kernel
theorem dX_test_9 : decode cX_test 9 = .ok (.invokevirtual 73, 3) := by decide +kernel
theorem dX_test_12 : decode cX_test 12 = .ok (.goto 5, 3) := by decide +kernel
theorem dX_test_15 : decode cX_test 15 = .ok (.iload_n 3, 1) := by decide +kernel
theorem dX_test_16 : decode cX_test 16 = .ok (.i2l, 1) := by decide +kernel
theorem dX_test_17 : decode cX_test 17 = .ok (.lstore 4, 2) := by decide +kernel
theorem dX_test_19 : decode cX_test 19 = .ok (.iload_n 1, 1) := by decide +kernel
theorem dX_test_20 : decode cX_test 20 = .ok (.iconst 1, 1) := by decide +kernel
theorem dX_test_21 : decode cX_test 21 = .ok (.iand, 1) := by decide +kernel
theorem dX_test_22 : decode cX_test 22 = .ok (.ifCond .eq 10, 3) := by decide +kernel
theorem dX_test_25 : decode cX_test 25 = .ok (.lload 4, 2) := by decide +kernel
theorem dX_test_27 : decode cX_test 27 = .ok (.invokestatic 194, 3) := by decide +kernel
theorem dX_test_30 : decode cX_test 30 = .ok (.lstore 4, 2) := by decide +kernel
theorem dX_test_32 : decode cX_test 32 = .ok (.aload_n 0, 1) := by decide +kernel
theorem dX_test_33 : decode cX_test 33 = .ok (.getfield 9, 3) := by decide +kernel
theorem dX_test_36 : decode cX_test 36 = .ok (.iload_n 2, 1) := by decide +kernel
theorem dX_test_37 : decode cX_test 37 = .ok (.laload, 1) := by decide +kernel
theorem dX_test_38 : decode cX_test 38 = .ok (.lstore 6, 2) := by decide +kernel
theorem dX_test_40 : decode cX_test 40 = .ok (.aload_n 0, 1) := by decide +kernel
theorem dX_test_41 : decode cX_test 41 = .ok (.iload_n 1, 1) := by decide +kernel
theorem dX_test_42 : decode cX_test 42 = .ok (.iconst 1, 1) := by decide +kernel
theorem dX_test_43 : decode cX_test 43 = .ok (.ishr, 1) := by decide +kernel
theorem dX_test_44 : decode cX_test 44 = .ok (.iconst 3, 1) := by decide +kernel
theorem dX_test_45 : decode cX_test 45 = .ok (.iand, 1) := by decide +kernel
theorem dX_test_46 : decode cX_test 46 = .ok (.lload 6, 2) := by decide +kernel
theorem dX_test_48 : decode cX_test 48 = .ok (.lload 4, 2) := by decide +kernel
theorem dX_test_50 : decode cX_test 50 = .ok (.land, 1) := by decide +kernel
theorem dX_test_51 : decode cX_test 51 = .ok (.invokestatic 224, 3) := by decide +kernel
theorem dX_test_54 : decode cX_test 54 = .ok (.invokevirtual 228, 3) := by decide +kernel
theorem dX_test_57 : decode cX_test 57 = .ok (.aload_n 0, 1) := by decide +kernel
theorem dX_test_58 : decode cX_test 58 = .ok (.iload_n 2, 1) := by decide +kernel
theorem dX_test_59 : decode cX_test 59 = .ok (.iload_n 1, 1) := by decide +kernel
theorem dX_test_60 : decode cX_test 60 = .ok (.iconst 4, 1) := by decide +kernel
theorem dX_test_61 : decode cX_test 61 = .ok (.ishr, 1) := by decide +kernel
theorem dX_test_62 : decode cX_test 62 = .ok (.iconst 3, 1) := by decide +kernel
theorem dX_test_63 : decode cX_test 63 = .ok (.iand, 1) := by decide +kernel
theorem dX_test_64 : decode cX_test 64 = .ok (.lload 6, 2) := by decide +kernel
theorem dX_test_66 : decode cX_test 66 = .ok (.lload 4, 2) := by decide +kernel
theorem dX_test_68 : decode cX_test 68 = .ok (.invokestatic 232, 3) := by decide +kernel
theorem dX_test_71 : decode cX_test 71 = .ok (.invokevirtual 153, 3) := by decide +kernel
theorem dX_test_74 : decode cX_test 74 = .ok (.return_, 1) := by decide +kernel
theorem dX_testSkips_0 : decode cX_testSkips 0 = .ok (.iload_n 0, 1) := by decide +kernel
theorem dX_testSkips_1 : decode cX_testSkips 1 = .ok (.tableswitch 53 1 3 #[27, 39, 41], 27) := by decide +kernel
theorem dX_testSkips_28 : decode cX_testSkips 28 = .ok (.lload_n 1, 1) := by decide +kernel
theorem dX_testSkips_29 : decode cX_testSkips 29 = .ok (.lconst 0, 1) := by decide +kernel
theorem dX_testSkips_30 : decode cX_testSkips 30 = .ok (.lcmp, 1) := by decide +kernel
theorem dX_testSkips_31 : decode cX_testSkips 31 = .ok (.ifCond .ne 7, 3) := by decide +kernel
theorem dX_testSkips_34 : decode cX_testSkips 34 = .ok (.iconst 1, 1) := by decide +kernel
theorem dX_testSkips_35 : decode cX_testSkips 35 = .ok (.goto 4, 3) := by decide +kernel
theorem dX_testSkips_38 : decode cX_testSkips 38 = .ok (.iconst 0, 1) := by decide +kernel
theorem dX_testSkips_39 : decode cX_testSkips 39 = .ok (.ireturn, 1) := by decide +kernel
theorem dX_testSkips_40 : decode cX_testSkips 40 = .ok (.iconst 1, 1) := by decide +kernel
theorem dX_testSkips_41 : decode cX_testSkips 41 = .ok (.ireturn, 1) := by decide +kernel
theorem dX_testSkips_42 : decode cX_testSkips 42 = .ok (.lload_n 1, 1) := by decide +kernel
theorem dX_testSkips_43 : decode cX_testSkips 43 = .ok (.lconst 0, 1) := by decide +kernel
theorem dX_testSkips_44 : decode cX_testSkips 44 = .ok (.lcmp, 1) := by decide +kernel
theorem dX_testSkips_45 : decode cX_testSkips 45 = .ok (.ifCond .eq 7, 3) := by decide +kernel
theorem dX_testSkips_48 : decode cX_testSkips 48 = .ok (.iconst 1, 1) := by decide +kernel
theorem dX_testSkips_49 : decode cX_testSkips 49 = .ok (.goto 4, 3) := by decide +kernel
theorem dX_testSkips_52 : decode cX_testSkips 52 = .ok (.iconst 0, 1) := by decide +kernel
theorem dX_testSkips_53 : decode cX_testSkips 53 = .ok (.ireturn, 1) := by decide +kernel
theorem dX_testSkips_54 : decode cX_testSkips 54 = .ok (.iconst 0, 1) := by decide +kernel
theorem dX_testSkips_55 : decode cX_testSkips 55 = .ok (.ireturn, 1) := by decide +kernel
theorem dX_maskedChange_0 : decode cX_maskedChange 0 = .ok (.iload_n 0, 1) := by decide +kernel
theorem dX_maskedChange_1 : decode cX_maskedChange 1 = .ok (.tableswitch 43 1 3 #[27, 35, 39], 27) := by decide +kernel
theorem dX_maskedChange_28 : decode cX_maskedChange 28 = .ok (.lload_n 1, 1) := by decide +kernel
theorem dX_maskedChange_29 : decode cX_maskedChange 29 = .ok (.lload_n 3, 1) := by decide +kernel
theorem dX_maskedChange_30 : decode cX_maskedChange 30 = .ok (.ldc2_w 19, 3) := by decide +kernel
theorem dX_maskedChange_33 : decode cX_maskedChange 33 = .ok (.lxor, 1) := by decide +kernel
theorem dX_maskedChange_34 : decode cX_maskedChange 34 = .ok (.land, 1) := by decide +kernel
theorem dX_maskedChange_35 : decode cX_maskedChange 35 = .ok (.lreturn, 1) := by decide +kernel
theorem dX_maskedChange_36 : decode cX_maskedChange 36 = .ok (.lload_n 1, 1) := by decide +kernel
theorem dX_maskedChange_37 : decode cX_maskedChange 37 = .ok (.lload_n 3, 1) := by decide +kernel
theorem dX_maskedChange_38 : decode cX_maskedChange 38 = .ok (.lxor, 1) := by decide +kernel
theorem dX_maskedChange_39 : decode cX_maskedChange 39 = .ok (.lreturn, 1) := by decide +kernel
theorem dX_maskedChange_40 : decode cX_maskedChange 40 = .ok (.lload_n 1, 1) := by decide +kernel
theorem dX_maskedChange_41 : decode cX_maskedChange 41 = .ok (.lload_n 3, 1) := by decide +kernel
theorem dX_maskedChange_42 : decode cX_maskedChange 42 = .ok (.lor, 1) := by decide +kernel
theorem dX_maskedChange_43 : decode cX_maskedChange 43 = .ok (.lreturn, 1) := by decide +kernel
theorem dX_maskedChange_44 : decode cX_maskedChange 44 = .ok (.lload_n 1, 1) := by decide +kernel
theorem dX_maskedChange_45 : decode cX_maskedChange 45 = .ok (.lreturn, 1) := by decide +kernel
theorem dX_holds_0 : decode cX_holds 0 = .ok (.iload_n 0, 1) := by decide +kernel
theorem dX_holds_1 : decode cX_holds 1 = .ok (.tableswitch 117 1 7 #[43, 55, 67, 79, 81, 93, 105], 43) := by decide +kernel
theorem dX_holds_44 : decode cX_holds 44 = .ok (.lload_n 1, 1) := by decide +kernel
theorem dX_holds_45 : decode cX_holds 45 = .ok (.lconst 0, 1) := by decide +kernel
theorem dX_holds_46 : decode cX_holds 46 = .ok (.lcmp, 1) := by decide +kernel
theorem dX_holds_47 : decode cX_holds 47 = .ok (.ifCond .ge 7, 3) := by decide +kernel
theorem dX_holds_50 : decode cX_holds 50 = .ok (.iconst 1, 1) := by decide +kernel
theorem dX_holds_51 : decode cX_holds 51 = .ok (.goto 4, 3) := by decide +kernel
theorem dX_holds_54 : decode cX_holds 54 = .ok (.iconst 0, 1) := by decide +kernel
theorem dX_holds_55 : decode cX_holds 55 = .ok (.ireturn, 1) := by decide +kernel
theorem dX_holds_56 : decode cX_holds 56 = .ok (.lload_n 1, 1) := by decide +kernel
theorem dX_holds_57 : decode cX_holds 57 = .ok (.lconst 0, 1) := by decide +kernel
theorem dX_holds_58 : decode cX_holds 58 = .ok (.lcmp, 1) := by decide +kernel
theorem dX_holds_59 : decode cX_holds 59 = .ok (.ifCond .ne 7, 3) := by decide +kernel
theorem dX_holds_62 : decode cX_holds 62 = .ok (.iconst 1, 1) := by decide +kernel
theorem dX_holds_63 : decode cX_holds 63 = .ok (.goto 4, 3) := by decide +kernel
theorem dX_holds_66 : decode cX_holds 66 = .ok (.iconst 0, 1) := by decide +kernel
theorem dX_holds_67 : decode cX_holds 67 = .ok (.ireturn, 1) := by decide +kernel
theorem dX_holds_68 : decode cX_holds 68 = .ok (.lload_n 1, 1) := by decide +kernel
theorem dX_holds_69 : decode cX_holds 69 = .ok (.lconst 0, 1) := by decide +kernel
theorem dX_holds_70 : decode cX_holds 70 = .ok (.lcmp, 1) := by decide +kernel
theorem dX_holds_71 : decode cX_holds 71 = .ok (.ifCond .gt 7, 3) := by decide +kernel
theorem dX_holds_74 : decode cX_holds 74 = .ok (.iconst 1, 1) := by decide +kernel
theorem dX_holds_75 : decode cX_holds 75 = .ok (.goto 4, 3) := by decide +kernel
theorem dX_holds_78 : decode cX_holds 78 = .ok (.iconst 0, 1) := by decide +kernel
theorem dX_holds_79 : decode cX_holds 79 = .ok (.ireturn, 1) := by decide +kernel
theorem dX_holds_80 : decode cX_holds 80 = .ok (.iconst 1, 1) := by decide +kernel
theorem dX_holds_81 : decode cX_holds 81 = .ok (.ireturn, 1) := by decide +kernel
theorem dX_holds_82 : decode cX_holds 82 = .ok (.lload_n 1, 1) := by decide +kernel
theorem dX_holds_83 : decode cX_holds 83 = .ok (.lconst 0, 1) := by decide +kernel
theorem dX_holds_84 : decode cX_holds 84 = .ok (.lcmp, 1) := by decide +kernel
theorem dX_holds_85 : decode cX_holds 85 = .ok (.ifCond .lt 7, 3) := by decide +kernel
theorem dX_holds_88 : decode cX_holds 88 = .ok (.iconst 1, 1) := by decide +kernel
theorem dX_holds_89 : decode cX_holds 89 = .ok (.goto 4, 3) := by decide +kernel
theorem dX_holds_92 : decode cX_holds 92 = .ok (.iconst 0, 1) := by decide +kernel
theorem dX_holds_93 : decode cX_holds 93 = .ok (.ireturn, 1) := by decide +kernel
theorem dX_holds_94 : decode cX_holds 94 = .ok (.lload_n 1, 1) := by decide +kernel
theorem dX_holds_95 : decode cX_holds 95 = .ok (.lconst 0, 1) := by decide +kernel
theorem dX_holds_96 : decode cX_holds 96 = .ok (.lcmp, 1) := by decide +kernel
theorem dX_holds_97 : decode cX_holds 97 = .ok (.ifCond .eq 7, 3) := by decide +kernel
theorem dX_holds_100 : decode cX_holds 100 = .ok (.iconst 1, 1) := by decide +kernel
theorem dX_holds_101 : decode cX_holds 101 = .ok (.goto 4, 3) := by decide +kernel
theorem dX_holds_104 : decode cX_holds 104 = .ok (.iconst 0, 1) := by decide +kernel
theorem dX_holds_105 : decode cX_holds 105 = .ok (.ireturn, 1) := by decide +kernel
theorem dX_holds_106 : decode cX_holds 106 = .ok (.lload_n 1, 1) := by decide +kernel
theorem dX_holds_107 : decode cX_holds 107 = .ok (.lconst 0, 1) := by decide +kernel
theorem dX_holds_108 : decode cX_holds 108 = .ok (.lcmp, 1) := by decide +kernel
theorem dX_holds_109 : decode cX_holds 109 = .ok (.ifCond .le 7, 3) := by decide +kernel
theorem dX_holds_112 : decode cX_holds 112 = .ok (.iconst 1, 1) := by decide +kernel
theorem dX_holds_113 : decode cX_holds 113 = .ok (.goto 4, 3) := by decide +kernel
theorem dX_holds_116 : decode cX_holds 116 = .ok (.iconst 0, 1) := by decide +kernel
theorem dX_holds_117 : decode cX_holds 117 = .ok (.ireturn, 1) := by decide +kernel
theorem dX_holds_118 : decode cX_holds 118 = .ok (.iconst 0, 1) := by decide +kernel
theorem dX_holds_119 : decode cX_holds 119 = .ok (.ireturn, 1) := by decide +kernel
theorem dX_compare_0 : decode cX_compare 0 = .ok (.iload_n 1, 1) := by decide +kernel
theorem dX_compare_1 : decode cX_compare 1 = .ok (.bipush 7, 2) := by decide +kernel
theorem dX_compare_3 : decode cX_compare 3 = .ok (.iand, 1) := by decide +kernel
theorem dX_compare_4 : decode cX_compare 4 = .ok (.istore 4, 2) := by decide +kernel
theorem dX_compare_6 : decode cX_compare 6 = .ok (.aload_n 0, 1) := by decide +kernel
theorem dX_compare_7 : decode cX_compare 7 = .ok (.getfield 9, 3) := by decide +kernel
theorem dX_compare_10 : decode cX_compare 10 = .ok (.iload_n 2, 1) := by decide +kernel
theorem dX_compare_11 : decode cX_compare 11 = .ok (.laload, 1) := by decide +kernel
theorem dX_compare_12 : decode cX_compare 12 = .ok (.invokestatic 21, 3) := by decide +kernel
theorem dX_compare_15 : decode cX_compare 15 = .ok (.lstore 5, 2) := by decide +kernel
theorem dX_compare_17 : decode cX_compare 17 = .ok (.iload_n 1, 1) := by decide +kernel
theorem dX_compare_18 : decode cX_compare 18 = .ok (.iconst 3, 1) := by decide +kernel
theorem dX_compare_19 : decode cX_compare 19 = .ok (.ishr, 1) := by decide +kernel
theorem dX_compare_20 : decode cX_compare 20 = .ok (.bipush 7, 2) := by decide +kernel
theorem dX_compare_22 : decode cX_compare 22 = .ok (.iand, 1) := by decide +kernel
theorem dX_compare_23 : decode cX_compare 23 = .ok (.tableswitch 133 0 6 #[41, 56, 77, 90, 103, 113, 123], 41) := by decide +kernel
theorem dX_compare_64 : decode cX_compare 64 = .ok (.aload_n 0, 1) := by decide +kernel
theorem dX_compare_65 : decode cX_compare 65 = .ok (.iload 4, 2) := by decide +kernel
theorem dX_compare_67 : decode cX_compare 67 = .ok (.lload 5, 2) := by decide +kernel
theorem dX_compare_69 : decode cX_compare 69 = .ok (.iload_n 3, 1) := by decide +kernel
theorem dX_compare_70 : decode cX_compare 70 = .ok (.i2l, 1) := by decide +kernel
theorem dX_compare_71 : decode cX_compare 71 = .ok (.lsub, 1) := by decide +kernel
theorem dX_compare_72 : decode cX_compare 72 = .ok (.invokestatic 236, 3) := by decide +kernel
theorem dX_compare_75 : decode cX_compare 75 = .ok (.invokevirtual 228, 3) := by decide +kernel
theorem dX_compare_78 : decode cX_compare 78 = .ok (.return_, 1) := by decide +kernel
theorem dX_compare_79 : decode cX_compare 79 = .ok (.aload_n 0, 1) := by decide +kernel
theorem dX_compare_80 : decode cX_compare 80 = .ok (.iload 4, 2) := by decide +kernel
theorem dX_compare_82 : decode cX_compare 82 = .ok (.lload 5, 2) := by decide +kernel
theorem dX_compare_84 : decode cX_compare 84 = .ok (.aload_n 0, 1) := by decide +kernel
theorem dX_compare_85 : decode cX_compare 85 = .ok (.iload_n 3, 1) := by decide +kernel
theorem dX_compare_86 : decode cX_compare 86 = .ok (.invokevirtual 73, 3) := by decide +kernel
theorem dX_compare_89 : decode cX_compare 89 = .ok (.invokestatic 21, 3) := by decide +kernel
theorem dX_compare_92 : decode cX_compare 92 = .ok (.lsub, 1) := by decide +kernel
theorem dX_compare_93 : decode cX_compare 93 = .ok (.invokestatic 236, 3) := by decide +kernel
theorem dX_compare_96 : decode cX_compare 96 = .ok (.invokevirtual 228, 3) := by decide +kernel
theorem dX_compare_99 : decode cX_compare 99 = .ok (.return_, 1) := by decide +kernel
theorem dX_compare_100 : decode cX_compare 100 = .ok (.aload_n 0, 1) := by decide +kernel
theorem dX_compare_101 : decode cX_compare 101 = .ok (.iload 4, 2) := by decide +kernel
theorem dX_compare_103 : decode cX_compare 103 = .ok (.lload 5, 2) := by decide +kernel
theorem dX_compare_105 : decode cX_compare 105 = .ok (.invokestatic 236, 3) := by decide +kernel
theorem dX_compare_108 : decode cX_compare 108 = .ok (.iload_n 3, 1) := by decide +kernel
theorem dX_compare_109 : decode cX_compare 109 = .ok (.invokevirtual 239, 3) := by decide +kernel
theorem dX_compare_112 : decode cX_compare 112 = .ok (.return_, 1) := by decide +kernel
theorem dX_compare_113 : decode cX_compare 113 = .ok (.aload_n 0, 1) := by decide +kernel
theorem dX_compare_114 : decode cX_compare 114 = .ok (.iload 4, 2) := by decide +kernel
theorem dX_compare_116 : decode cX_compare 116 = .ok (.iload_n 2, 1) := by decide +kernel
theorem dX_compare_117 : decode cX_compare 117 = .ok (.aload_n 0, 1) := by decide +kernel
theorem dX_compare_118 : decode cX_compare 118 = .ok (.iload_n 3, 1) := by decide +kernel
theorem dX_compare_119 : decode cX_compare 119 = .ok (.invokevirtual 73, 3) := by decide +kernel
theorem dX_compare_122 : decode cX_compare 122 = .ok (.invokevirtual 243, 3) := by decide +kernel
theorem dX_compare_125 : decode cX_compare 125 = .ok (.return_, 1) := by decide +kernel
theorem dX_compare_126 : decode cX_compare 126 = .ok (.aload_n 0, 1) := by decide +kernel
theorem dX_compare_127 : decode cX_compare 127 = .ok (.iload 4, 2) := by decide +kernel
theorem dX_compare_129 : decode cX_compare 129 = .ok (.iload_n 2, 1) := by decide +kernel
theorem dX_compare_130 : decode cX_compare 130 = .ok (.iload_n 3, 1) := by decide +kernel
theorem dX_compare_131 : decode cX_compare 131 = .ok (.iconst 1, 1) := by decide +kernel
theorem dX_compare_132 : decode cX_compare 132 = .ok (.invokevirtual 247, 3) := by decide +kernel
theorem dX_compare_135 : decode cX_compare 135 = .ok (.return_, 1) := by decide +kernel
theorem dX_compare_136 : decode cX_compare 136 = .ok (.aload_n 0, 1) := by decide +kernel
theorem dX_compare_137 : decode cX_compare 137 = .ok (.iload 4, 2) := by decide +kernel
theorem dX_compare_139 : decode cX_compare 139 = .ok (.iload_n 2, 1) := by decide +kernel
theorem dX_compare_140 : decode cX_compare 140 = .ok (.iload_n 3, 1) := by decide +kernel
theorem dX_compare_141 : decode cX_compare 141 = .ok (.iconst 1, 1) := by decide +kernel
theorem dX_compare_142 : decode cX_compare 142 = .ok (.invokevirtual 251, 3) := by decide +kernel
theorem dX_compare_145 : decode cX_compare 145 = .ok (.return_, 1) := by decide +kernel
theorem dX_compare_146 : decode cX_compare 146 = .ok (.aload_n 0, 1) := by decide +kernel
theorem dX_compare_147 : decode cX_compare 147 = .ok (.iload 4, 2) := by decide +kernel
theorem dX_compare_149 : decode cX_compare 149 = .ok (.iload_n 2, 1) := by decide +kernel
theorem dX_compare_150 : decode cX_compare 150 = .ok (.iload_n 3, 1) := by decide +kernel
theorem dX_compare_151 : decode cX_compare 151 = .ok (.iconst (-1), 1) := by decide +kernel
theorem dX_compare_152 : decode cX_compare 152 = .ok (.invokevirtual 247, 3) := by decide +kernel
theorem dX_compare_155 : decode cX_compare 155 = .ok (.return_, 1) := by decide +kernel
theorem dX_compare_156 : decode cX_compare 156 = .ok (.aload_n 0, 1) := by decide +kernel
theorem dX_compare_157 : decode cX_compare 157 = .ok (.iload 4, 2) := by decide +kernel
theorem dX_compare_159 : decode cX_compare 159 = .ok (.iload_n 2, 1) := by decide +kernel
theorem dX_compare_160 : decode cX_compare 160 = .ok (.iload_n 3, 1) := by decide +kernel
theorem dX_compare_161 : decode cX_compare 161 = .ok (.iconst (-1), 1) := by decide +kernel
theorem dX_compare_162 : decode cX_compare 162 = .ok (.invokevirtual 251, 3) := by decide +kernel
theorem dX_compare_165 : decode cX_compare 165 = .ok (.return_, 1) := by decide +kernel
theorem dX_skipOnWord_0 : decode cX_skipOnWord 0 = .ok (.aload_n 0, 1) := by decide +kernel
theorem dX_skipOnWord_1 : decode cX_skipOnWord 1 = .ok (.iload_n 2, 1) := by decide +kernel
theorem dX_skipOnWord_2 : decode cX_skipOnWord 2 = .ok (.lload_n 3, 1) := by decide +kernel
theorem dX_skipOnWord_3 : decode cX_skipOnWord 3 = .ok (.invokevirtual 179, 3) := by decide +kernel
theorem dX_skipOnWord_6 : decode cX_skipOnWord 6 = .ok (.aload_n 0, 1) := by decide +kernel
theorem dX_skipOnWord_7 : decode cX_skipOnWord 7 = .ok (.iload_n 1, 1) := by decide +kernel
theorem dX_skipOnWord_8 : decode cX_skipOnWord 8 = .ok (.lload_n 3, 1) := by decide +kernel
theorem dX_skipOnWord_9 : decode cX_skipOnWord 9 = .ok (.invokestatic 21, 3) := by decide +kernel
theorem dX_skipOnWord_12 : decode cX_skipOnWord 12 = .ok (.invokestatic 236, 3) := by decide +kernel
theorem dX_skipOnWord_15 : decode cX_skipOnWord 15 = .ok (.invokevirtual 228, 3) := by decide +kernel
theorem dX_skipOnWord_18 : decode cX_skipOnWord 18 = .ok (.return_, 1) := by decide +kernel
theorem dX_countAndJump_0 : decode cX_countAndJump 0 = .ok (.aload_n 0, 1) := by decide +kernel
theorem dX_countAndJump_1 : decode cX_countAndJump 1 = .ok (.aload_n 0, 1) := by decide +kernel
theorem dX_countAndJump_2 : decode cX_countAndJump 2 = .ok (.getfield 9, 3) := by decide +kernel
theorem dX_countAndJump_5 : decode cX_countAndJump 5 = .ok (.iload_n 2, 1) := by decide +kernel
theorem dX_countAndJump_6 : decode cX_countAndJump 6 = .ok (.laload, 1) := by decide +kernel
theorem dX_countAndJump_7 : decode cX_countAndJump 7 = .ok (.invokestatic 21, 3) := by decide +kernel
theorem dX_countAndJump_10 : decode cX_countAndJump 10 = .ok (.iload 4, 2) := by decide +kernel
theorem dX_countAndJump_12 : decode cX_countAndJump 12 = .ok (.i2l, 1) := by decide +kernel
theorem dX_countAndJump_13 : decode cX_countAndJump 13 = .ok (.ladd, 1) := by decide +kernel
theorem dX_countAndJump_14 : decode cX_countAndJump 14 = .ok (.invokevirtual 197, 3) := by decide +kernel
theorem dX_countAndJump_17 : decode cX_countAndJump 17 = .ok (.lstore 5, 2) := by decide +kernel
theorem dX_countAndJump_19 : decode cX_countAndJump 19 = .ok (.aload_n 0, 1) := by decide +kernel
theorem dX_countAndJump_20 : decode cX_countAndJump 20 = .ok (.iload_n 2, 1) := by decide +kernel
theorem dX_countAndJump_21 : decode cX_countAndJump 21 = .ok (.lload 5, 2) := by decide +kernel
theorem dX_countAndJump_23 : decode cX_countAndJump 23 = .ok (.invokevirtual 153, 3) := by decide +kernel
theorem dX_countAndJump_26 : decode cX_countAndJump 26 = .ok (.aload_n 0, 1) := by decide +kernel
theorem dX_countAndJump_27 : decode cX_countAndJump 27 = .ok (.iload_n 1, 1) := by decide +kernel
theorem dX_countAndJump_28 : decode cX_countAndJump 28 = .ok (.lload 5, 2) := by decide +kernel
theorem dX_countAndJump_30 : decode cX_countAndJump 30 = .ok (.invokestatic 21, 3) := by decide +kernel
theorem dX_countAndJump_33 : decode cX_countAndJump 33 = .ok (.invokestatic 236, 3) := by decide +kernel
theorem dX_countAndJump_36 : decode cX_countAndJump 36 = .ok (.iload_n 3, 1) := by decide +kernel
theorem dX_countAndJump_37 : decode cX_countAndJump 37 = .ok (.invokevirtual 239, 3) := by decide +kernel
theorem dX_countAndJump_40 : decode cX_countAndJump 40 = .ok (.return_, 1) := by decide +kernel
theorem dX_countAndSkip_0 : decode cX_countAndSkip 0 = .ok (.aload_n 0, 1) := by decide +kernel
theorem dX_countAndSkip_1 : decode cX_countAndSkip 1 = .ok (.aload_n 0, 1) := by decide +kernel
theorem dX_countAndSkip_2 : decode cX_countAndSkip 2 = .ok (.iload_n 3, 1) := by decide +kernel
theorem dX_countAndSkip_3 : decode cX_countAndSkip 3 = .ok (.invokevirtual 73, 3) := by decide +kernel
theorem dX_countAndSkip_6 : decode cX_countAndSkip 6 = .ok (.invokestatic 21, 3) := by decide +kernel
theorem dX_countAndSkip_9 : decode cX_countAndSkip 9 = .ok (.iload 4, 2) := by decide +kernel
theorem dX_countAndSkip_11 : decode cX_countAndSkip 11 = .ok (.i2l, 1) := by decide +kernel
theorem dX_countAndSkip_12 : decode cX_countAndSkip 12 = .ok (.ladd, 1) := by decide +kernel
theorem dX_countAndSkip_13 : decode cX_countAndSkip 13 = .ok (.invokevirtual 197, 3) := by decide +kernel
theorem dX_countAndSkip_16 : decode cX_countAndSkip 16 = .ok (.lstore 5, 2) := by decide +kernel
theorem dX_countAndSkip_18 : decode cX_countAndSkip 18 = .ok (.aload_n 0, 1) := by decide +kernel
theorem dX_countAndSkip_19 : decode cX_countAndSkip 19 = .ok (.iload_n 3, 1) := by decide +kernel
theorem dX_countAndSkip_20 : decode cX_countAndSkip 20 = .ok (.lload 5, 2) := by decide +kernel
theorem dX_countAndSkip_22 : decode cX_countAndSkip 22 = .ok (.invokevirtual 176, 3) := by decide +kernel
theorem dX_countAndSkip_25 : decode cX_countAndSkip 25 = .ok (.aload_n 0, 1) := by decide +kernel
theorem dX_countAndSkip_26 : decode cX_countAndSkip 26 = .ok (.iload_n 1, 1) := by decide +kernel
theorem dX_countAndSkip_27 : decode cX_countAndSkip 27 = .ok (.iload_n 2, 1) := by decide +kernel
theorem dX_countAndSkip_28 : decode cX_countAndSkip 28 = .ok (.lload 5, 2) := by decide +kernel
theorem dX_countAndSkip_30 : decode cX_countAndSkip 30 = .ok (.invokevirtual 243, 3) := by decide +kernel
theorem dX_countAndSkip_33 : decode cX_countAndSkip 33 = .ok (.return_, 1) := by decide +kernel
theorem dX_shift_0 : decode cX_shift 0 = .ok (.iload_n 3, 1) := by decide +kernel
theorem dX_shift_1 : decode cX_shift 1 = .ok (.sipush 255, 3) := by decide +kernel
theorem dX_shift_4 : decode cX_shift 4 = .ok (.iand, 1) := by decide +kernel
theorem dX_shift_5 : decode cX_shift 5 = .ok (.iload_n 3, 1) := by decide +kernel
theorem dX_shift_6 : decode cX_shift 6 = .ok (.ldc 110, 2) := by decide +kernel
theorem dX_shift_8 : decode cX_shift 8 = .ok (.iand, 1) := by decide +kernel
theorem dX_shift_9 : decode cX_shift 9 = .ok (.ifCond .eq 9, 3) := by decide +kernel
theorem dX_shift_12 : decode cX_shift 12 = .ok (.sipush 256, 3) := by decide +kernel
theorem dX_shift_15 : decode cX_shift 15 = .ok (.goto 4, 3) := by decide +kernel
theorem dX_shift_18 : decode cX_shift 18 = .ok (.iconst 0, 1) := by decide +kernel
theorem dX_shift_19 : decode cX_shift 19 = .ok (.isub, 1) := by decide +kernel
theorem dX_shift_20 : decode cX_shift 20 = .ok (.istore 4, 2) := by decide +kernel
theorem dX_shift_22 : decode cX_shift 22 = .ok (.iload_n 1, 1) := by decide +kernel
theorem dX_shift_23 : decode cX_shift 23 = .ok (.tableswitch 77 160 162 #[25, 43, 60], 25) := by decide +kernel
theorem dX_shift_48 : decode cX_shift 48 = .ok (.aload_n 0, 1) := by decide +kernel
theorem dX_shift_49 : decode cX_shift 49 = .ok (.iload_n 2, 1) := by decide +kernel
theorem dX_shift_50 : decode cX_shift 50 = .ok (.aload_n 0, 1) := by decide +kernel
theorem dX_shift_51 : decode cX_shift 51 = .ok (.aload_n 0, 1) := by decide +kernel
theorem dX_shift_52 : decode cX_shift 52 = .ok (.getfield 9, 3) := by decide +kernel
theorem dX_shift_55 : decode cX_shift 55 = .ok (.iload_n 2, 1) := by decide +kernel
theorem dX_shift_56 : decode cX_shift 56 = .ok (.laload, 1) := by decide +kernel
theorem dX_shift_57 : decode cX_shift 57 = .ok (.iload 4, 2) := by decide +kernel
theorem dX_shift_59 : decode cX_shift 59 = .ok (.invokevirtual 254, 3) := by decide +kernel
theorem dX_shift_62 : decode cX_shift 62 = .ok (.invokevirtual 153, 3) := by decide +kernel
theorem dX_shift_65 : decode cX_shift 65 = .ok (.return_, 1) := by decide +kernel
theorem dX_shift_66 : decode cX_shift 66 = .ok (.aload_n 0, 1) := by decide +kernel
theorem dX_shift_67 : decode cX_shift 67 = .ok (.iload_n 2, 1) := by decide +kernel
theorem dX_shift_68 : decode cX_shift 68 = .ok (.aload_n 0, 1) := by decide +kernel
theorem dX_shift_69 : decode cX_shift 69 = .ok (.getfield 9, 3) := by decide +kernel
theorem dX_shift_72 : decode cX_shift 72 = .ok (.iload_n 2, 1) := by decide +kernel
theorem dX_shift_73 : decode cX_shift 73 = .ok (.laload, 1) := by decide +kernel
theorem dX_shift_74 : decode cX_shift 74 = .ok (.iload 4, 2) := by decide +kernel
theorem dX_shift_76 : decode cX_shift 76 = .ok (.invokestatic 258, 3) := by decide +kernel
theorem dX_shift_79 : decode cX_shift 79 = .ok (.invokevirtual 153, 3) := by decide +kernel
theorem dX_shift_82 : decode cX_shift 82 = .ok (.return_, 1) := by decide +kernel
theorem dX_shift_83 : decode cX_shift 83 = .ok (.aload_n 0, 1) := by decide +kernel
theorem dX_shift_84 : decode cX_shift 84 = .ok (.iload_n 2, 1) := by decide +kernel
theorem dX_shift_85 : decode cX_shift 85 = .ok (.aload_n 0, 1) := by decide +kernel
theorem dX_shift_86 : decode cX_shift 86 = .ok (.getfield 9, 3) := by decide +kernel
theorem dX_shift_89 : decode cX_shift 89 = .ok (.iload_n 2, 1) := by decide +kernel
theorem dX_shift_90 : decode cX_shift 90 = .ok (.laload, 1) := by decide +kernel
theorem dX_shift_91 : decode cX_shift 91 = .ok (.iload 4, 2) := by decide +kernel
theorem dX_shift_93 : decode cX_shift 93 = .ok (.invokestatic 261, 3) := by decide +kernel
theorem dX_shift_96 : decode cX_shift 96 = .ok (.invokevirtual 153, 3) := by decide +kernel
theorem dX_shift_99 : decode cX_shift 99 = .ok (.return_, 1) := by decide +kernel
theorem dX_shift_100 : decode cX_shift 100 = .ok (.aload_n 0, 1) := by decide +kernel
theorem dX_shift_101 : decode cX_shift 101 = .ok (.iconst 2, 1) := by decide +kernel
theorem dX_shift_102 : decode cX_shift 102 = .ok (.invokevirtual 147, 3) := by decide +kernel
theorem dX_shift_105 : decode cX_shift 105 = .ok (.return_, 1) := by decide +kernel
theorem dX_shiftedAsNumber_0 : decode cX_shiftedAsNumber 0 = .ok (.lload_n 1, 1) := by decide +kernel
theorem dX_shiftedAsNumber_1 : decode cX_shiftedAsNumber 1 = .ok (.invokestatic 21, 3) := by decide +kernel
theorem dX_shiftedAsNumber_4 : decode cX_shiftedAsNumber 4 = .ok (.lstore 4, 2) := by decide +kernel
theorem dX_shiftedAsNumber_6 : decode cX_shiftedAsNumber 6 = .ok (.iload_n 3, 1) := by decide +kernel
theorem dX_shiftedAsNumber_7 : decode cX_shiftedAsNumber 7 = .ok (.ifCond .gt 18, 3) := by decide +kernel
theorem dX_shiftedAsNumber_10 : decode cX_shiftedAsNumber 10 = .ok (.lload 4, 2) := by decide +kernel
theorem dX_shiftedAsNumber_12 : decode cX_shiftedAsNumber 12 = .ok (.iload_n 3, 1) := by decide +kernel
theorem dX_shiftedAsNumber_13 : decode cX_shiftedAsNumber 13 = .ok (.ineg, 1) := by decide +kernel
theorem dX_shiftedAsNumber_14 : decode cX_shiftedAsNumber 14 = .ok (.bipush 36, 2) := by decide +kernel
theorem dX_shiftedAsNumber_16 : decode cX_shiftedAsNumber 16 = .ok (.invokestatic 264, 3) := by decide +kernel
theorem dX_shiftedAsNumber_19 : decode cX_shiftedAsNumber 19 = .ok (.lshr, 1) := by decide +kernel
theorem dX_shiftedAsNumber_20 : decode cX_shiftedAsNumber 20 = .ok (.ldc2_w 17, 3) := by decide +kernel
theorem dX_shiftedAsNumber_23 : decode cX_shiftedAsNumber 23 = .ok (.land, 1) := by decide +kernel
theorem dX_shiftedAsNumber_24 : decode cX_shiftedAsNumber 24 = .ok (.lreturn, 1) := by decide +kernel
theorem dX_shiftedAsNumber_25 : decode cX_shiftedAsNumber 25 = .ok (.iload_n 3, 1) := by decide +kernel
theorem dX_shiftedAsNumber_26 : decode cX_shiftedAsNumber 26 = .ok (.bipush 36, 2) := by decide +kernel
theorem dX_shiftedAsNumber_28 : decode cX_shiftedAsNumber 28 = .ok (.if_icmp .ge 27, 3) := by decide +kernel
theorem dX_shiftedAsNumber_31 : decode cX_shiftedAsNumber 31 = .ok (.lload 4, 2) := by decide +kernel
theorem dX_shiftedAsNumber_33 : decode cX_shiftedAsNumber 33 = .ok (.bipush 35, 2) := by decide +kernel
theorem dX_shiftedAsNumber_35 : decode cX_shiftedAsNumber 35 = .ok (.iload_n 3, 1) := by decide +kernel
theorem dX_shiftedAsNumber_36 : decode cX_shiftedAsNumber 36 = .ok (.isub, 1) := by decide +kernel
theorem dX_shiftedAsNumber_37 : decode cX_shiftedAsNumber 37 = .ok (.lshr, 1) := by decide +kernel
theorem dX_shiftedAsNumber_38 : decode cX_shiftedAsNumber 38 = .ok (.lload 4, 2) := by decide +kernel
theorem dX_shiftedAsNumber_40 : decode cX_shiftedAsNumber 40 = .ok (.bipush 36, 2) := by decide +kernel
theorem dX_shiftedAsNumber_42 : decode cX_shiftedAsNumber 42 = .ok (.lshr, 1) := by decide +kernel
theorem dX_shiftedAsNumber_43 : decode cX_shiftedAsNumber 43 = .ok (.lcmp, 1) := by decide +kernel
theorem dX_shiftedAsNumber_44 : decode cX_shiftedAsNumber 44 = .ok (.ifCond .ne 7, 3) := by decide +kernel
theorem dX_shiftedAsNumber_47 : decode cX_shiftedAsNumber 47 = .ok (.iconst 1, 1) := by decide +kernel
theorem dX_shiftedAsNumber_48 : decode cX_shiftedAsNumber 48 = .ok (.goto 19, 3) := by decide +kernel
theorem dX_shiftedAsNumber_51 : decode cX_shiftedAsNumber 51 = .ok (.iconst 0, 1) := by decide +kernel
theorem dX_shiftedAsNumber_52 : decode cX_shiftedAsNumber 52 = .ok (.goto 15, 3) := by decide +kernel
theorem dX_shiftedAsNumber_55 : decode cX_shiftedAsNumber 55 = .ok (.lload 4, 2) := by decide +kernel
theorem dX_shiftedAsNumber_57 : decode cX_shiftedAsNumber 57 = .ok (.lconst 0, 1) := by decide +kernel
theorem dX_shiftedAsNumber_58 : decode cX_shiftedAsNumber 58 = .ok (.lcmp, 1) := by decide +kernel
theorem dX_shiftedAsNumber_59 : decode cX_shiftedAsNumber 59 = .ok (.ifCond .ne 7, 3) := by decide +kernel
theorem dX_shiftedAsNumber_62 : decode cX_shiftedAsNumber 62 = .ok (.iconst 1, 1) := by decide +kernel
theorem dX_shiftedAsNumber_63 : decode cX_shiftedAsNumber 63 = .ok (.goto 4, 3) := by decide +kernel
theorem dX_shiftedAsNumber_66 : decode cX_shiftedAsNumber 66 = .ok (.iconst 0, 1) := by decide +kernel
theorem dX_shiftedAsNumber_67 : decode cX_shiftedAsNumber 67 = .ok (.istore 6, 2) := by decide +kernel
theorem dX_shiftedAsNumber_69 : decode cX_shiftedAsNumber 69 = .ok (.iload 6, 2) := by decide +kernel
theorem dX_shiftedAsNumber_71 : decode cX_shiftedAsNumber 71 = .ok (.ifCond .ne 7, 3) := by decide +kernel
theorem dX_shiftedAsNumber_74 : decode cX_shiftedAsNumber 74 = .ok (.aload_n 0, 1) := by decide +kernel
theorem dX_shiftedAsNumber_75 : decode cX_shiftedAsNumber 75 = .ok (.invokevirtual 170, 3) := by decide +kernel
theorem dX_shiftedAsNumber_78 : decode cX_shiftedAsNumber 78 = .ok (.lload_n 1, 1) := by decide +kernel
theorem dX_shiftedAsNumber_79 : decode cX_shiftedAsNumber 79 = .ok (.ldc2_w 268, 3) := by decide +kernel
theorem dX_shiftedAsNumber_82 : decode cX_shiftedAsNumber 82 = .ok (.land, 1) := by decide +kernel
theorem dX_shiftedAsNumber_83 : decode cX_shiftedAsNumber 83 = .ok (.lload_n 1, 1) := by decide +kernel
theorem dX_shiftedAsNumber_84 : decode cX_shiftedAsNumber 84 = .ok (.iload_n 3, 1) := by decide +kernel
theorem dX_shiftedAsNumber_85 : decode cX_shiftedAsNumber 85 = .ok (.invokestatic 261, 3) := by decide +kernel
theorem dX_shiftedAsNumber_88 : decode cX_shiftedAsNumber 88 = .ok (.ldc2_w 270, 3) := by decide +kernel
theorem dX_shiftedAsNumber_91 : decode cX_shiftedAsNumber 91 = .ok (.land, 1) := by decide +kernel
theorem dX_shiftedAsNumber_92 : decode cX_shiftedAsNumber 92 = .ok (.lor, 1) := by decide +kernel
theorem dX_shiftedAsNumber_93 : decode cX_shiftedAsNumber 93 = .ok (.lreturn, 1) := by decide +kernel
theorem dX_rotated_0 : decode cX_rotated 0 = .ok (.iload_n 2, 1) := by decide +kernel
theorem dX_rotated_1 : decode cX_rotated 1 = .ok (.bipush 36, 2) := by decide +kernel
theorem dX_rotated_3 : decode cX_rotated 3 = .ok (.invokestatic 272, 3) := by decide +kernel
theorem dX_rotated_6 : decode cX_rotated 6 = .ok (.istore_n 3, 1) := by decide +kernel
theorem dX_rotated_7 : decode cX_rotated 7 = .ok (.lload_n 0, 1) := by decide +kernel
theorem dX_rotated_8 : decode cX_rotated 8 = .ok (.iload_n 3, 1) := by decide +kernel
theorem dX_rotated_9 : decode cX_rotated 9 = .ok (.lshl, 1) := by decide +kernel
theorem dX_rotated_10 : decode cX_rotated 10 = .ok (.lload_n 0, 1) := by decide +kernel
theorem dX_rotated_11 : decode cX_rotated 11 = .ok (.bipush 36, 2) := by decide +kernel
theorem dX_rotated_13 : decode cX_rotated 13 = .ok (.iload_n 3, 1) := by decide +kernel
theorem dX_rotated_14 : decode cX_rotated 14 = .ok (.isub, 1) := by decide +kernel
theorem dX_rotated_15 : decode cX_rotated 15 = .ok (.lushr, 1) := by decide +kernel
theorem dX_rotated_16 : decode cX_rotated 16 = .ok (.lor, 1) := by decide +kernel
theorem dX_rotated_17 : decode cX_rotated 17 = .ok (.ldc2_w 17, 3) := by decide +kernel
theorem dX_rotated_20 : decode cX_rotated 20 = .ok (.land, 1) := by decide +kernel
theorem dX_rotated_21 : decode cX_rotated 21 = .ok (.lreturn, 1) := by decide +kernel
theorem dX_shiftedAsBits_0 : decode cX_shiftedAsBits 0 = .ok (.iload_n 2, 1) := by decide +kernel
theorem dX_shiftedAsBits_1 : decode cX_shiftedAsBits 1 = .ok (.bipush (-36), 2) := by decide +kernel
theorem dX_shiftedAsBits_3 : decode cX_shiftedAsBits 3 = .ok (.if_icmp .le 9, 3) := by decide +kernel
theorem dX_shiftedAsBits_6 : decode cX_shiftedAsBits 6 = .ok (.iload_n 2, 1) := by decide +kernel
theorem dX_shiftedAsBits_7 : decode cX_shiftedAsBits 7 = .ok (.bipush 36, 2) := by decide +kernel
theorem dX_shiftedAsBits_9 : decode cX_shiftedAsBits 9 = .ok (.if_icmp .lt 5, 3) := by decide +kernel
theorem dX_shiftedAsBits_12 : decode cX_shiftedAsBits 12 = .ok (.lconst 0, 1) := by decide +kernel
theorem dX_shiftedAsBits_13 : decode cX_shiftedAsBits 13 = .ok (.lreturn, 1) := by decide +kernel
theorem dX_shiftedAsBits_14 : decode cX_shiftedAsBits 14 = .ok (.iload_n 2, 1) := by decide +kernel
theorem dX_shiftedAsBits_15 : decode cX_shiftedAsBits 15 = .ok (.ifCond .ge 10, 3) := by decide +kernel
theorem dX_shiftedAsBits_18 : decode cX_shiftedAsBits 18 = .ok (.lload_n 0, 1) := by decide +kernel
theorem dX_shiftedAsBits_19 : decode cX_shiftedAsBits 19 = .ok (.iload_n 2, 1) := by decide +kernel
theorem dX_shiftedAsBits_20 : decode cX_shiftedAsBits 20 = .ok (.ineg, 1) := by decide +kernel
theorem dX_shiftedAsBits_21 : decode cX_shiftedAsBits 21 = .ok (.lushr, 1) := by decide +kernel
theorem dX_shiftedAsBits_22 : decode cX_shiftedAsBits 22 = .ok (.goto 10, 3) := by decide +kernel
theorem dX_shiftedAsBits_25 : decode cX_shiftedAsBits 25 = .ok (.lload_n 0, 1) := by decide +kernel
theorem dX_shiftedAsBits_26 : decode cX_shiftedAsBits 26 = .ok (.iload_n 2, 1) := by decide +kernel
theorem dX_shiftedAsBits_27 : decode cX_shiftedAsBits 27 = .ok (.lshl, 1) := by decide +kernel
theorem dX_shiftedAsBits_28 : decode cX_shiftedAsBits 28 = .ok (.ldc2_w 17, 3) := by decide +kernel
theorem dX_shiftedAsBits_31 : decode cX_shiftedAsBits 31 = .ok (.land, 1) := by decide +kernel
theorem dX_shiftedAsBits_32 : decode cX_shiftedAsBits 32 = .ok (.lreturn, 1) := by decide +kernel
theorem dX_exchangeOrJump_0 : decode cX_exchangeOrJump 0 = .ok (.iload_n 1, 1) := by decide +kernel
theorem dX_exchangeOrJump_1 : decode cX_exchangeOrJump 1 = .ok (.tableswitch 118 168 172 #[35, 42, 49, 80, 111], 35) := by decide +kernel
theorem dX_exchangeOrJump_36 : decode cX_exchangeOrJump 36 = .ok (.aload_n 0, 1) := by decide +kernel
theorem dX_exchangeOrJump_37 : decode cX_exchangeOrJump 37 = .ok (.iload_n 2, 1) := by decide +kernel
theorem dX_exchangeOrJump_38 : decode cX_exchangeOrJump 38 = .ok (.iload_n 3, 1) := by decide +kernel
theorem dX_exchangeOrJump_39 : decode cX_exchangeOrJump 39 = .ok (.invokevirtual 275, 3) := by decide +kernel
theorem dX_exchangeOrJump_42 : decode cX_exchangeOrJump 42 = .ok (.return_, 1) := by decide +kernel
theorem dX_exchangeOrJump_43 : decode cX_exchangeOrJump 43 = .ok (.aload_n 0, 1) := by decide +kernel
theorem dX_exchangeOrJump_44 : decode cX_exchangeOrJump 44 = .ok (.iload_n 2, 1) := by decide +kernel
theorem dX_exchangeOrJump_45 : decode cX_exchangeOrJump 45 = .ok (.iload_n 3, 1) := by decide +kernel
theorem dX_exchangeOrJump_46 : decode cX_exchangeOrJump 46 = .ok (.invokevirtual 279, 3) := by decide +kernel
theorem dX_exchangeOrJump_49 : decode cX_exchangeOrJump 49 = .ok (.return_, 1) := by decide +kernel
theorem dX_exchangeOrJump_50 : decode cX_exchangeOrJump 50 = .ok (.aload_n 0, 1) := by decide +kernel
theorem dX_exchangeOrJump_51 : decode cX_exchangeOrJump 51 = .ok (.iload_n 2, 1) := by decide +kernel
theorem dX_exchangeOrJump_52 : decode cX_exchangeOrJump 52 = .ok (.iconst 1, 1) := by decide +kernel
theorem dX_exchangeOrJump_53 : decode cX_exchangeOrJump 53 = .ok (.invokevirtual 282, 3) := by decide +kernel
theorem dX_exchangeOrJump_56 : decode cX_exchangeOrJump 56 = .ok (.aload_n 0, 1) := by decide +kernel
theorem dX_exchangeOrJump_57 : decode cX_exchangeOrJump 57 = .ok (.aload_n 0, 1) := by decide +kernel
theorem dX_exchangeOrJump_58 : decode cX_exchangeOrJump 58 = .ok (.getfield 9, 3) := by decide +kernel
theorem dX_exchangeOrJump_61 : decode cX_exchangeOrJump 61 = .ok (.iload_n 2, 1) := by decide +kernel
theorem dX_exchangeOrJump_62 : decode cX_exchangeOrJump 62 = .ok (.laload, 1) := by decide +kernel
theorem dX_exchangeOrJump_63 : decode cX_exchangeOrJump 63 = .ok (.invokestatic 21, 3) := by decide +kernel
theorem dX_exchangeOrJump_66 : decode cX_exchangeOrJump 66 = .ok (.lconst 0, 1) := by decide +kernel
theorem dX_exchangeOrJump_67 : decode cX_exchangeOrJump 67 = .ok (.lcmp, 1) := by decide +kernel
theorem dX_exchangeOrJump_68 : decode cX_exchangeOrJump 68 = .ok (.ifCond .lt 7, 3) := by decide +kernel
theorem dX_exchangeOrJump_71 : decode cX_exchangeOrJump 71 = .ok (.iconst 1, 1) := by decide +kernel
theorem dX_exchangeOrJump_72 : decode cX_exchangeOrJump 72 = .ok (.goto 4, 3) := by decide +kernel
theorem dX_exchangeOrJump_75 : decode cX_exchangeOrJump 75 = .ok (.iconst 0, 1) := by decide +kernel
theorem dX_exchangeOrJump_76 : decode cX_exchangeOrJump 76 = .ok (.iload_n 3, 1) := by decide +kernel
theorem dX_exchangeOrJump_77 : decode cX_exchangeOrJump 77 = .ok (.invokevirtual 239, 3) := by decide +kernel
theorem dX_exchangeOrJump_80 : decode cX_exchangeOrJump 80 = .ok (.return_, 1) := by decide +kernel
theorem dX_exchangeOrJump_81 : decode cX_exchangeOrJump 81 = .ok (.aload_n 0, 1) := by decide +kernel
theorem dX_exchangeOrJump_82 : decode cX_exchangeOrJump 82 = .ok (.iload_n 2, 1) := by decide +kernel
theorem dX_exchangeOrJump_83 : decode cX_exchangeOrJump 83 = .ok (.iconst 1, 1) := by decide +kernel
theorem dX_exchangeOrJump_84 : decode cX_exchangeOrJump 84 = .ok (.invokevirtual 282, 3) := by decide +kernel
theorem dX_exchangeOrJump_87 : decode cX_exchangeOrJump 87 = .ok (.aload_n 0, 1) := by decide +kernel
theorem dX_exchangeOrJump_88 : decode cX_exchangeOrJump 88 = .ok (.aload_n 0, 1) := by decide +kernel
theorem dX_exchangeOrJump_89 : decode cX_exchangeOrJump 89 = .ok (.getfield 9, 3) := by decide +kernel
theorem dX_exchangeOrJump_92 : decode cX_exchangeOrJump 92 = .ok (.iload_n 2, 1) := by decide +kernel
theorem dX_exchangeOrJump_93 : decode cX_exchangeOrJump 93 = .ok (.laload, 1) := by decide +kernel
theorem dX_exchangeOrJump_94 : decode cX_exchangeOrJump 94 = .ok (.invokestatic 21, 3) := by decide +kernel
theorem dX_exchangeOrJump_97 : decode cX_exchangeOrJump 97 = .ok (.lconst 0, 1) := by decide +kernel
theorem dX_exchangeOrJump_98 : decode cX_exchangeOrJump 98 = .ok (.lcmp, 1) := by decide +kernel
theorem dX_exchangeOrJump_99 : decode cX_exchangeOrJump 99 = .ok (.ifCond .ge 7, 3) := by decide +kernel
theorem dX_exchangeOrJump_102 : decode cX_exchangeOrJump 102 = .ok (.iconst 1, 1) := by decide +kernel
theorem dX_exchangeOrJump_103 : decode cX_exchangeOrJump 103 = .ok (.goto 4, 3) := by decide +kernel
theorem dX_exchangeOrJump_106 : decode cX_exchangeOrJump 106 = .ok (.iconst 0, 1) := by decide +kernel
theorem dX_exchangeOrJump_107 : decode cX_exchangeOrJump 107 = .ok (.iload_n 3, 1) := by decide +kernel
theorem dX_exchangeOrJump_108 : decode cX_exchangeOrJump 108 = .ok (.invokevirtual 239, 3) := by decide +kernel
theorem dX_exchangeOrJump_111 : decode cX_exchangeOrJump 111 = .ok (.return_, 1) := by decide +kernel
theorem dX_exchangeOrJump_112 : decode cX_exchangeOrJump 112 = .ok (.aload_n 0, 1) := by decide +kernel
theorem dX_exchangeOrJump_113 : decode cX_exchangeOrJump 113 = .ok (.iload_n 2, 1) := by decide +kernel
theorem dX_exchangeOrJump_114 : decode cX_exchangeOrJump 114 = .ok (.iload_n 3, 1) := by decide +kernel
theorem dX_exchangeOrJump_115 : decode cX_exchangeOrJump 115 = .ok (.invokevirtual 285, 3) := by decide +kernel
theorem dX_exchangeOrJump_118 : decode cX_exchangeOrJump 118 = .ok (.return_, 1) := by decide +kernel
theorem dX_exchangeOrJump_119 : decode cX_exchangeOrJump 119 = .ok (.aload_n 0, 1) := by decide +kernel
theorem dX_exchangeOrJump_120 : decode cX_exchangeOrJump 120 = .ok (.iconst 2, 1) := by decide +kernel
theorem dX_exchangeOrJump_121 : decode cX_exchangeOrJump 121 = .ok (.invokevirtual 147, 3) := by decide +kernel
theorem dX_exchangeOrJump_124 : decode cX_exchangeOrJump 124 = .ok (.return_, 1) := by decide +kernel
theorem dX_exchange_0 : decode cX_exchange 0 = .ok (.aload_n 0, 1) := by decide +kernel
theorem dX_exchange_1 : decode cX_exchange 1 = .ok (.iload_n 2, 1) := by decide +kernel
theorem dX_exchange_2 : decode cX_exchange 2 = .ok (.invokevirtual 73, 3) := by decide +kernel
theorem dX_exchange_5 : decode cX_exchange 5 = .ok (.lstore_n 3, 1) := by decide +kernel
theorem dX_exchange_6 : decode cX_exchange 6 = .ok (.aload_n 0, 1) := by decide +kernel
theorem dX_exchange_7 : decode cX_exchange 7 = .ok (.iload_n 2, 1) := by decide +kernel
theorem dX_exchange_8 : decode cX_exchange 8 = .ok (.aload_n 0, 1) := by decide +kernel
theorem dX_exchange_9 : decode cX_exchange 9 = .ok (.getfield 9, 3) := by decide +kernel
theorem dX_exchange_12 : decode cX_exchange 12 = .ok (.iload_n 1, 1) := by decide +kernel
theorem dX_exchange_13 : decode cX_exchange 13 = .ok (.laload, 1) := by decide +kernel
theorem dX_exchange_14 : decode cX_exchange 14 = .ok (.invokevirtual 176, 3) := by decide +kernel
theorem dX_exchange_17 : decode cX_exchange 17 = .ok (.aload_n 0, 1) := by decide +kernel
theorem dX_exchange_18 : decode cX_exchange 18 = .ok (.iload_n 1, 1) := by decide +kernel
theorem dX_exchange_19 : decode cX_exchange 19 = .ok (.lload_n 3, 1) := by decide +kernel
theorem dX_exchange_20 : decode cX_exchange 20 = .ok (.invokevirtual 153, 3) := by decide +kernel
theorem dX_exchange_23 : decode cX_exchange 23 = .ok (.return_, 1) := by decide +kernel
theorem dX_block_0 : decode cX_block 0 = .ok (.aload_n 0, 1) := by decide +kernel
theorem dX_block_1 : decode cX_block 1 = .ok (.getfield 9, 3) := by decide +kernel
theorem dX_block_4 : decode cX_block 4 = .ok (.iload_n 1, 1) := by decide +kernel
theorem dX_block_5 : decode cX_block 5 = .ok (.laload, 1) := by decide +kernel
theorem dX_block_6 : decode cX_block 6 = .ok (.invokestatic 167, 3) := by decide +kernel
theorem dX_block_9 : decode cX_block 9 = .ok (.istore_n 3, 1) := by decide +kernel
theorem dX_block_10 : decode cX_block 10 = .ok (.aload_n 0, 1) := by decide +kernel
theorem dX_block_11 : decode cX_block 11 = .ok (.getfield 9, 3) := by decide +kernel
theorem dX_block_14 : decode cX_block 14 = .ok (.iload_n 1, 1) := by decide +kernel
theorem dX_block_15 : decode cX_block 15 = .ok (.laload, 1) := by decide +kernel
theorem dX_block_16 : decode cX_block 16 = .ok (.invokestatic 164, 3) := by decide +kernel
theorem dX_block_19 : decode cX_block 19 = .ok (.istore 4, 2) := by decide +kernel
theorem dX_block_21 : decode cX_block 21 = .ok (.iload_n 2, 1) := by decide +kernel
theorem dX_block_22 : decode cX_block 22 = .ok (.iload 4, 2) := by decide +kernel
theorem dX_block_24 : decode cX_block 24 = .ok (.isub, 1) := by decide +kernel
theorem dX_block_25 : decode cX_block 25 = .ok (.iconst 0, 1) := by decide +kernel
theorem dX_block_26 : decode cX_block 26 = .ok (.invokestatic 288, 3) := by decide +kernel
theorem dX_block_29 : decode cX_block 29 = .ok (.iconst 1, 1) := by decide +kernel
theorem dX_block_30 : decode cX_block 30 = .ok (.iadd, 1) := by decide +kernel
theorem dX_block_31 : decode cX_block 31 = .ok (.istore 5, 2) := by decide +kernel
theorem dX_block_33 : decode cX_block 33 = .ok (.iconst 0, 1) := by decide +kernel
theorem dX_block_34 : decode cX_block 34 = .ok (.istore 6, 2) := by decide +kernel
theorem dX_block_36 : decode cX_block 36 = .ok (.iload 6, 2) := by decide +kernel
theorem dX_block_38 : decode cX_block 38 = .ok (.iload 5, 2) := by decide +kernel
theorem dX_block_40 : decode cX_block 40 = .ok (.if_icmp .ge 39, 3) := by decide +kernel
theorem dX_block_43 : decode cX_block 43 = .ok (.aload_n 0, 1) := by decide +kernel
theorem dX_block_44 : decode cX_block 44 = .ok (.getfield 67, 3) := by decide +kernel
theorem dX_block_47 : decode cX_block 47 = .ok (.ifCond .ne 32, 3) := by decide +kernel
theorem dX_block_50 : decode cX_block 50 = .ok (.aload_n 0, 1) := by decide +kernel
theorem dX_block_51 : decode cX_block 51 = .ok (.iload 4, 2) := by decide +kernel
theorem dX_block_53 : decode cX_block 53 = .ok (.iload 6, 2) := by decide +kernel
theorem dX_block_55 : decode cX_block 55 = .ok (.iadd, 1) := by decide +kernel
theorem dX_block_56 : decode cX_block 56 = .ok (.invokestatic 77, 3) := by decide +kernel
theorem dX_block_59 : decode cX_block 59 = .ok (.aload_n 0, 1) := by decide +kernel
theorem dX_block_60 : decode cX_block 60 = .ok (.iload_n 3, 1) := by decide +kernel
theorem dX_block_61 : decode cX_block 61 = .ok (.iload 6, 2) := by decide +kernel
theorem dX_block_63 : decode cX_block 63 = .ok (.iadd, 1) := by decide +kernel
theorem dX_block_64 : decode cX_block 64 = .ok (.invokestatic 77, 3) := by decide +kernel
theorem dX_block_67 : decode cX_block 67 = .ok (.invokevirtual 73, 3) := by decide +kernel
theorem dX_block_70 : decode cX_block 70 = .ok (.invokevirtual 176, 3) := by decide +kernel
theorem dX_block_73 : decode cX_block 73 = .ok (.iinc 6 1, 3) := by decide +kernel
theorem dX_block_76 : decode cX_block 76 = .ok (.goto (-40), 3) := by decide +kernel
theorem dX_block_79 : decode cX_block 79 = .ok (.return_, 1) := by decide +kernel
theorem dX_jumpByAccumulator_0 : decode cX_jumpByAccumulator 0 = .ok (.iload_n 1, 1) := by decide +kernel
theorem dX_jumpByAccumulator_1 : decode cX_jumpByAccumulator 1 = .ok (.ifCond .ne 11, 3) := by decide +kernel
theorem dX_jumpByAccumulator_4 : decode cX_jumpByAccumulator 4 = .ok (.aload_n 0, 1) := by decide +kernel
theorem dX_jumpByAccumulator_5 : decode cX_jumpByAccumulator 5 = .ok (.iload_n 2, 1) := by decide +kernel
theorem dX_jumpByAccumulator_6 : decode cX_jumpByAccumulator 6 = .ok (.putfield 42, 3) := by decide +kernel
theorem dX_jumpByAccumulator_9 : decode cX_jumpByAccumulator 9 = .ok (.goto 51, 3) := by decide +kernel
theorem dX_jumpByAccumulator_12 : decode cX_jumpByAccumulator 12 = .ok (.iload_n 1, 1) := by decide +kernel
theorem dX_jumpByAccumulator_13 : decode cX_jumpByAccumulator 13 = .ok (.iconst 1, 1) := by decide +kernel
theorem dX_jumpByAccumulator_14 : decode cX_jumpByAccumulator 14 = .ok (.if_icmp .ne 16, 3) := by decide +kernel
theorem dX_jumpByAccumulator_17 : decode cX_jumpByAccumulator 17 = .ok (.aload_n 0, 1) := by decide +kernel
theorem dX_jumpByAccumulator_18 : decode cX_jumpByAccumulator 18 = .ok (.iload_n 2, 1) := by decide +kernel
theorem dX_jumpByAccumulator_19 : decode cX_jumpByAccumulator 19 = .ok (.putfield 42, 3) := by decide +kernel
theorem dX_jumpByAccumulator_22 : decode cX_jumpByAccumulator 22 = .ok (.aload_n 0, 1) := by decide +kernel
theorem dX_jumpByAccumulator_23 : decode cX_jumpByAccumulator 23 = .ok (.iconst 1, 1) := by decide +kernel
theorem dX_jumpByAccumulator_24 : decode cX_jumpByAccumulator 24 = .ok (.putfield 45, 3) := by decide +kernel
theorem dX_jumpByAccumulator_27 : decode cX_jumpByAccumulator 27 = .ok (.goto 33, 3) := by decide +kernel
theorem dX_jumpByAccumulator_30 : decode cX_jumpByAccumulator 30 = .ok (.iload_n 1, 1) := by decide +kernel
theorem dX_jumpByAccumulator_31 : decode cX_jumpByAccumulator 31 = .ok (.iconst 4, 1) := by decide +kernel
theorem dX_jumpByAccumulator_32 : decode cX_jumpByAccumulator 32 = .ok (.if_icmp .ne 23, 3) := by decide +kernel
theorem dX_jumpByAccumulator_35 : decode cX_jumpByAccumulator 35 = .ok (.aload_n 0, 1) := by decide +kernel
theorem dX_jumpByAccumulator_36 : decode cX_jumpByAccumulator 36 = .ok (.getfield 45, 3) := by decide +kernel
theorem dX_jumpByAccumulator_39 : decode cX_jumpByAccumulator 39 = .ok (.ifCond .ne 16, 3) := by decide +kernel
theorem dX_jumpByAccumulator_42 : decode cX_jumpByAccumulator 42 = .ok (.aload_n 0, 1) := by decide +kernel
theorem dX_jumpByAccumulator_43 : decode cX_jumpByAccumulator 43 = .ok (.iload_n 2, 1) := by decide +kernel
theorem dX_jumpByAccumulator_44 : decode cX_jumpByAccumulator 44 = .ok (.putfield 42, 3) := by decide +kernel
theorem dX_jumpByAccumulator_47 : decode cX_jumpByAccumulator 47 = .ok (.aload_n 0, 1) := by decide +kernel
theorem dX_jumpByAccumulator_48 : decode cX_jumpByAccumulator 48 = .ok (.iconst 1, 1) := by decide +kernel
theorem dX_jumpByAccumulator_49 : decode cX_jumpByAccumulator 49 = .ok (.putfield 49, 3) := by decide +kernel
theorem dX_jumpByAccumulator_52 : decode cX_jumpByAccumulator 52 = .ok (.goto 8, 3) := by decide +kernel
theorem dX_jumpByAccumulator_55 : decode cX_jumpByAccumulator 55 = .ok (.aload_n 0, 1) := by decide +kernel
theorem dX_jumpByAccumulator_56 : decode cX_jumpByAccumulator 56 = .ok (.iconst 2, 1) := by decide +kernel
theorem dX_jumpByAccumulator_57 : decode cX_jumpByAccumulator 57 = .ok (.invokevirtual 147, 3) := by decide +kernel
theorem dX_jumpByAccumulator_60 : decode cX_jumpByAccumulator 60 = .ok (.return_, 1) := by decide +kernel
theorem dX_moveHalves_0 : decode cX_moveHalves 0 = .ok (.aload_n 0, 1) := by decide +kernel
theorem dX_moveHalves_1 : decode cX_moveHalves 1 = .ok (.getfield 9, 3) := by decide +kernel
theorem dX_moveHalves_4 : decode cX_moveHalves 4 = .ok (.iload_n 1, 1) := by decide +kernel
theorem dX_moveHalves_5 : decode cX_moveHalves 5 = .ok (.laload, 1) := by decide +kernel
theorem dX_moveHalves_6 : decode cX_moveHalves 6 = .ok (.lstore_n 3, 1) := by decide +kernel
theorem dX_moveHalves_7 : decode cX_moveHalves 7 = .ok (.aload_n 0, 1) := by decide +kernel
theorem dX_moveHalves_8 : decode cX_moveHalves 8 = .ok (.iload_n 1, 1) := by decide +kernel
theorem dX_moveHalves_9 : decode cX_moveHalves 9 = .ok (.lload_n 3, 1) := by decide +kernel
theorem dX_moveHalves_10 : decode cX_moveHalves 10 = .ok (.invokestatic 167, 3) := by decide +kernel
theorem dX_moveHalves_13 : decode cX_moveHalves 13 = .ok (.iload_n 2, 1) := by decide +kernel
theorem dX_moveHalves_14 : decode cX_moveHalves 14 = .ok (.iadd, 1) := by decide +kernel
theorem dX_moveHalves_15 : decode cX_moveHalves 15 = .ok (.invokestatic 77, 3) := by decide +kernel
theorem dX_moveHalves_18 : decode cX_moveHalves 18 = .ok (.lload_n 3, 1) := by decide +kernel
theorem dX_moveHalves_19 : decode cX_moveHalves 19 = .ok (.invokestatic 164, 3) := by decide +kernel
theorem dX_moveHalves_22 : decode cX_moveHalves 22 = .ok (.iload_n 2, 1) := by decide +kernel
theorem dX_moveHalves_23 : decode cX_moveHalves 23 = .ok (.iadd, 1) := by decide +kernel
theorem dX_moveHalves_24 : decode cX_moveHalves 24 = .ok (.invokestatic 77, 3) := by decide +kernel
theorem dX_moveHalves_27 : decode cX_moveHalves 27 = .ok (.invokestatic 106, 3) := by decide +kernel
theorem dX_moveHalves_30 : decode cX_moveHalves 30 = .ok (.invokevirtual 153, 3) := by decide +kernel
theorem dX_moveHalves_33 : decode cX_moveHalves 33 = .ok (.return_, 1) := by decide +kernel
theorem dX_growStack_0 : decode cX_growStack 0 = .ok (.aload_n 0, 1) := by decide +kernel
theorem dX_growStack_1 : decode cX_growStack 1 = .ok (.iload_n 1, 1) := by decide +kernel
theorem dX_growStack_2 : decode cX_growStack 2 = .ok (.iconst 1, 1) := by decide +kernel
theorem dX_growStack_3 : decode cX_growStack 3 = .ok (.invokevirtual 282, 3) := by decide +kernel
theorem dX_growStack_6 : decode cX_growStack 6 = .ok (.aload_n 0, 1) := by decide +kernel
theorem dX_growStack_7 : decode cX_growStack 7 = .ok (.getfield 9, 3) := by decide +kernel
theorem dX_growStack_10 : decode cX_growStack 10 = .ok (.iload_n 1, 1) := by decide +kernel
theorem dX_growStack_11 : decode cX_growStack 11 = .ok (.laload, 1) := by decide +kernel
theorem dX_growStack_12 : decode cX_growStack 12 = .ok (.invokestatic 167, 3) := by decide +kernel
theorem dX_growStack_15 : decode cX_growStack 15 = .ok (.ifCond .ne 7, 3) := by decide +kernel
theorem dX_growStack_18 : decode cX_growStack 18 = .ok (.aload_n 0, 1) := by decide +kernel
theorem dX_growStack_19 : decode cX_growStack 19 = .ok (.invokevirtual 170, 3) := by decide +kernel
theorem dX_growStack_22 : decode cX_growStack 22 = .ok (.return_, 1) := by decide +kernel
theorem dX_shrinkStack_0 : decode cX_shrinkStack 0 = .ok (.aload_n 0, 1) := by decide +kernel
theorem dX_shrinkStack_1 : decode cX_shrinkStack 1 = .ok (.iload_n 1, 1) := by decide +kernel
theorem dX_shrinkStack_2 : decode cX_shrinkStack 2 = .ok (.iconst (-1), 1) := by decide +kernel
theorem dX_shrinkStack_3 : decode cX_shrinkStack 3 = .ok (.invokevirtual 282, 3) := by decide +kernel
theorem dX_shrinkStack_6 : decode cX_shrinkStack 6 = .ok (.aload_n 0, 1) := by decide +kernel
theorem dX_shrinkStack_7 : decode cX_shrinkStack 7 = .ok (.getfield 9, 3) := by decide +kernel
theorem dX_shrinkStack_10 : decode cX_shrinkStack 10 = .ok (.iload_n 1, 1) := by decide +kernel
theorem dX_shrinkStack_11 : decode cX_shrinkStack 11 = .ok (.laload, 1) := by decide +kernel
theorem dX_shrinkStack_12 : decode cX_shrinkStack 12 = .ok (.invokestatic 167, 3) := by decide +kernel
theorem dX_shrinkStack_15 : decode cX_shrinkStack 15 = .ok (.ldc 41, 2) := by decide +kernel
theorem dX_shrinkStack_17 : decode cX_shrinkStack 17 = .ok (.if_icmp .ne 7, 3) := by decide +kernel
theorem dX_shrinkStack_20 : decode cX_shrinkStack 20 = .ok (.aload_n 0, 1) := by decide +kernel
theorem dX_shrinkStack_21 : decode cX_shrinkStack 21 = .ok (.invokevirtual 170, 3) := by decide +kernel
theorem dX_shrinkStack_24 : decode cX_shrinkStack 24 = .ok (.return_, 1) := by decide +kernel
theorem dX_stack_0 : decode cX_stack 0 = .ok (.iload_n 1, 1) := by decide +kernel
theorem dX_stack_1 : decode cX_stack 1 = .ok (.tableswitch 176 176 181 #[39, 67, 91, 115, 141, 161], 39) := by decide +kernel
theorem dX_stack_40 : decode cX_stack 40 = .ok (.aload_n 0, 1) := by decide +kernel
theorem dX_stack_41 : decode cX_stack 41 = .ok (.iload_n 2, 1) := by decide +kernel
theorem dX_stack_42 : decode cX_stack 42 = .ok (.invokevirtual 291, 3) := by decide +kernel
theorem dX_stack_45 : decode cX_stack 45 = .ok (.aload_n 0, 1) := by decide +kernel
theorem dX_stack_46 : decode cX_stack 46 = .ok (.aload_n 0, 1) := by decide +kernel
theorem dX_stack_47 : decode cX_stack 47 = .ok (.getfield 9, 3) := by decide +kernel
theorem dX_stack_50 : decode cX_stack 50 = .ok (.iload_n 2, 1) := by decide +kernel
theorem dX_stack_51 : decode cX_stack 51 = .ok (.laload, 1) := by decide +kernel
theorem dX_stack_52 : decode cX_stack 52 = .ok (.invokestatic 164, 3) := by decide +kernel
theorem dX_stack_55 : decode cX_stack 55 = .ok (.aload_n 0, 1) := by decide +kernel
theorem dX_stack_56 : decode cX_stack 56 = .ok (.invokevirtual 294, 3) := by decide +kernel
theorem dX_stack_59 : decode cX_stack 59 = .ok (.invokevirtual 176, 3) := by decide +kernel
theorem dX_stack_62 : decode cX_stack 62 = .ok (.aload_n 0, 1) := by decide +kernel
theorem dX_stack_63 : decode cX_stack 63 = .ok (.iload_n 3, 1) := by decide +kernel
theorem dX_stack_64 : decode cX_stack 64 = .ok (.putfield 42, 3) := by decide +kernel
theorem dX_stack_67 : decode cX_stack 67 = .ok (.return_, 1) := by decide +kernel
theorem dX_stack_68 : decode cX_stack 68 = .ok (.aload_n 0, 1) := by decide +kernel
theorem dX_stack_69 : decode cX_stack 69 = .ok (.iload_n 2, 1) := by decide +kernel
theorem dX_stack_70 : decode cX_stack 70 = .ok (.invokevirtual 291, 3) := by decide +kernel
theorem dX_stack_73 : decode cX_stack 73 = .ok (.aload_n 0, 1) := by decide +kernel
theorem dX_stack_74 : decode cX_stack 74 = .ok (.aload_n 0, 1) := by decide +kernel
theorem dX_stack_75 : decode cX_stack 75 = .ok (.getfield 9, 3) := by decide +kernel
theorem dX_stack_78 : decode cX_stack 78 = .ok (.iload_n 2, 1) := by decide +kernel
theorem dX_stack_79 : decode cX_stack 79 = .ok (.laload, 1) := by decide +kernel
theorem dX_stack_80 : decode cX_stack 80 = .ok (.invokestatic 164, 3) := by decide +kernel
theorem dX_stack_83 : decode cX_stack 83 = .ok (.aload_n 0, 1) := by decide +kernel
theorem dX_stack_84 : decode cX_stack 84 = .ok (.iload_n 3, 1) := by decide +kernel
theorem dX_stack_85 : decode cX_stack 85 = .ok (.invokevirtual 73, 3) := by decide +kernel
theorem dX_stack_88 : decode cX_stack 88 = .ok (.invokevirtual 176, 3) := by decide +kernel
theorem dX_stack_91 : decode cX_stack 91 = .ok (.return_, 1) := by decide +kernel
theorem dX_stack_92 : decode cX_stack 92 = .ok (.aload_n 0, 1) := by decide +kernel
theorem dX_stack_93 : decode cX_stack 93 = .ok (.iload_n 3, 1) := by decide +kernel
theorem dX_stack_94 : decode cX_stack 94 = .ok (.aload_n 0, 1) := by decide +kernel
theorem dX_stack_95 : decode cX_stack 95 = .ok (.aload_n 0, 1) := by decide +kernel
theorem dX_stack_96 : decode cX_stack 96 = .ok (.getfield 9, 3) := by decide +kernel
theorem dX_stack_99 : decode cX_stack 99 = .ok (.iload_n 2, 1) := by decide +kernel
theorem dX_stack_100 : decode cX_stack 100 = .ok (.laload, 1) := by decide +kernel
theorem dX_stack_101 : decode cX_stack 101 = .ok (.invokestatic 164, 3) := by decide +kernel
theorem dX_stack_104 : decode cX_stack 104 = .ok (.invokevirtual 73, 3) := by decide +kernel
theorem dX_stack_107 : decode cX_stack 107 = .ok (.invokevirtual 176, 3) := by decide +kernel
theorem dX_stack_110 : decode cX_stack 110 = .ok (.aload_n 0, 1) := by decide +kernel
theorem dX_stack_111 : decode cX_stack 111 = .ok (.iload_n 2, 1) := by decide +kernel
theorem dX_stack_112 : decode cX_stack 112 = .ok (.invokevirtual 298, 3) := by decide +kernel
theorem dX_stack_115 : decode cX_stack 115 = .ok (.return_, 1) := by decide +kernel
theorem dX_stack_116 : decode cX_stack 116 = .ok (.aload_n 0, 1) := by decide +kernel
theorem dX_stack_117 : decode cX_stack 117 = .ok (.aload_n 0, 1) := by decide +kernel
theorem dX_stack_118 : decode cX_stack 118 = .ok (.aload_n 0, 1) := by decide +kernel
theorem dX_stack_119 : decode cX_stack 119 = .ok (.getfield 9, 3) := by decide +kernel
theorem dX_stack_122 : decode cX_stack 122 = .ok (.iload_n 2, 1) := by decide +kernel
theorem dX_stack_123 : decode cX_stack 123 = .ok (.laload, 1) := by decide +kernel
theorem dX_stack_124 : decode cX_stack 124 = .ok (.invokestatic 164, 3) := by decide +kernel
theorem dX_stack_127 : decode cX_stack 127 = .ok (.invokevirtual 73, 3) := by decide +kernel
theorem dX_stack_130 : decode cX_stack 130 = .ok (.invokestatic 164, 3) := by decide +kernel
theorem dX_stack_133 : decode cX_stack 133 = .ok (.putfield 42, 3) := by decide +kernel
theorem dX_stack_136 : decode cX_stack 136 = .ok (.aload_n 0, 1) := by decide +kernel
theorem dX_stack_137 : decode cX_stack 137 = .ok (.iload_n 2, 1) := by decide +kernel
theorem dX_stack_138 : decode cX_stack 138 = .ok (.invokevirtual 298, 3) := by decide +kernel
theorem dX_stack_141 : decode cX_stack 141 = .ok (.return_, 1) := by decide +kernel
theorem dX_stack_142 : decode cX_stack 142 = .ok (.aload_n 0, 1) := by decide +kernel
theorem dX_stack_143 : decode cX_stack 143 = .ok (.iload_n 3, 1) := by decide +kernel
theorem dX_stack_144 : decode cX_stack 144 = .ok (.aload_n 0, 1) := by decide +kernel
theorem dX_stack_145 : decode cX_stack 145 = .ok (.invokevirtual 294, 3) := by decide +kernel
theorem dX_stack_148 : decode cX_stack 148 = .ok (.invokevirtual 176, 3) := by decide +kernel
theorem dX_stack_151 : decode cX_stack 151 = .ok (.aload_n 0, 1) := by decide +kernel
theorem dX_stack_152 : decode cX_stack 152 = .ok (.iload_n 3, 1) := by decide +kernel
theorem dX_stack_153 : decode cX_stack 153 = .ok (.iconst 1, 1) := by decide +kernel
theorem dX_stack_154 : decode cX_stack 154 = .ok (.iadd, 1) := by decide +kernel
theorem dX_stack_155 : decode cX_stack 155 = .ok (.invokestatic 77, 3) := by decide +kernel
theorem dX_stack_158 : decode cX_stack 158 = .ok (.putfield 42, 3) := by decide +kernel
theorem dX_stack_161 : decode cX_stack 161 = .ok (.return_, 1) := by decide +kernel
theorem dX_stack_162 : decode cX_stack 162 = .ok (.aload_n 0, 1) := by decide +kernel
theorem dX_stack_163 : decode cX_stack 163 = .ok (.iload_n 2, 1) := by decide +kernel
theorem dX_stack_164 : decode cX_stack 164 = .ok (.aload_n 0, 1) := by decide +kernel
theorem dX_stack_165 : decode cX_stack 165 = .ok (.invokevirtual 294, 3) := by decide +kernel
theorem dX_stack_168 : decode cX_stack 168 = .ok (.invokevirtual 153, 3) := by decide +kernel
theorem dX_stack_171 : decode cX_stack 171 = .ok (.aload_n 0, 1) := by decide +kernel
theorem dX_stack_172 : decode cX_stack 172 = .ok (.iload_n 3, 1) := by decide +kernel
theorem dX_stack_173 : decode cX_stack 173 = .ok (.putfield 42, 3) := by decide +kernel
theorem dX_stack_176 : decode cX_stack 176 = .ok (.return_, 1) := by decide +kernel
theorem dX_stack_177 : decode cX_stack 177 = .ok (.aload_n 0, 1) := by decide +kernel
theorem dX_stack_178 : decode cX_stack 178 = .ok (.iconst 2, 1) := by decide +kernel
theorem dX_stack_179 : decode cX_stack 179 = .ok (.invokevirtual 147, 3) := by decide +kernel
theorem dX_stack_182 : decode cX_stack 182 = .ok (.return_, 1) := by decide +kernel
theorem dX_bytes_0 : decode cX_bytes 0 = .ok (.iload_n 1, 1) := by decide +kernel
theorem dX_bytes_1 : decode cX_bytes 1 = .ok (.bipush 91, 2) := by decide +kernel
theorem dX_bytes_3 : decode cX_bytes 3 = .ok (.if_icmp .ge 9, 3) := by decide +kernel
theorem dX_bytes_6 : decode cX_bytes 6 = .ok (.aload_n 0, 1) := by decide +kernel
theorem dX_bytes_7 : decode cX_bytes 7 = .ok (.iconst 2, 1) := by decide +kernel
theorem dX_bytes_8 : decode cX_bytes 8 = .ok (.invokevirtual 147, 3) := by decide +kernel
theorem dX_bytes_11 : decode cX_bytes 11 = .ok (.return_, 1) := by decide +kernel
theorem dX_bytes_12 : decode cX_bytes 12 = .ok (.iload_n 1, 1) := by decide +kernel
theorem dX_bytes_13 : decode cX_bytes 13 = .ok (.bipush 91, 2) := by decide +kernel
theorem dX_bytes_15 : decode cX_bytes 15 = .ok (.if_icmp .eq 15, 3) := by decide +kernel
theorem dX_bytes_18 : decode cX_bytes 18 = .ok (.iload_n 1, 1) := by decide +kernel
theorem dX_bytes_19 : decode cX_bytes 19 = .ok (.bipush 92, 2) := by decide +kernel
theorem dX_bytes_21 : decode cX_bytes 21 = .ok (.if_icmp .eq 9, 3) := by decide +kernel
theorem dX_bytes_24 : decode cX_bytes 24 = .ok (.iload_n 1, 1) := by decide +kernel
theorem dX_bytes_25 : decode cX_bytes 25 = .ok (.bipush 94, 2) := by decide +kernel
theorem dX_bytes_27 : decode cX_bytes 27 = .ok (.if_icmp .ne 8, 3) := by decide +kernel
theorem dX_bytes_30 : decode cX_bytes 30 = .ok (.aload_n 0, 1) := by decide +kernel
theorem dX_bytes_31 : decode cX_bytes 31 = .ok (.iload_n 3, 1) := by decide +kernel
theorem dX_bytes_32 : decode cX_bytes 32 = .ok (.invokevirtual 301, 3) := by decide +kernel
theorem dX_bytes_35 : decode cX_bytes 35 = .ok (.iload_n 1, 1) := by decide +kernel
theorem dX_bytes_36 : decode cX_bytes 36 = .ok (.bipush 91, 2) := by decide +kernel
theorem dX_bytes_38 : decode cX_bytes 38 = .ok (.if_icmp .ne 4, 3) := by decide +kernel
theorem dX_bytes_41 : decode cX_bytes 41 = .ok (.return_, 1) := by decide +kernel
theorem dX_bytes_42 : decode cX_bytes 42 = .ok (.aload_n 0, 1) := by decide +kernel
theorem dX_bytes_43 : decode cX_bytes 43 = .ok (.iload_n 3, 1) := by decide +kernel
theorem dX_bytes_44 : decode cX_bytes 44 = .ok (.invokevirtual 73, 3) := by decide +kernel
theorem dX_bytes_47 : decode cX_bytes 47 = .ok (.lstore 4, 2) := by decide +kernel
theorem dX_bytes_49 : decode cX_bytes 49 = .ok (.aload_n 0, 1) := by decide +kernel
theorem dX_bytes_50 : decode cX_bytes 50 = .ok (.lload 4, 2) := by decide +kernel
theorem dX_bytes_52 : decode cX_bytes 52 = .ok (.invokevirtual 81, 3) := by decide +kernel
theorem dX_bytes_55 : decode cX_bytes 55 = .ok (.istore 6, 2) := by decide +kernel
theorem dX_bytes_57 : decode cX_bytes 57 = .ok (.iload_n 1, 1) := by decide +kernel
theorem dX_bytes_58 : decode cX_bytes 58 = .ok (.bipush 92, 2) := by decide +kernel
theorem dX_bytes_60 : decode cX_bytes 60 = .ok (.if_icmp .eq 9, 3) := by decide +kernel
theorem dX_bytes_63 : decode cX_bytes 63 = .ok (.iload_n 1, 1) := by decide +kernel
theorem dX_bytes_64 : decode cX_bytes 64 = .ok (.bipush 93, 2) := by decide +kernel
theorem dX_bytes_66 : decode cX_bytes 66 = .ok (.if_icmp .ne 15, 3) := by decide +kernel
theorem dX_bytes_69 : decode cX_bytes 69 = .ok (.aload_n 0, 1) := by decide +kernel
theorem dX_bytes_70 : decode cX_bytes 70 = .ok (.iload_n 2, 1) := by decide +kernel
theorem dX_bytes_71 : decode cX_bytes 71 = .ok (.lload 4, 2) := by decide +kernel
theorem dX_bytes_73 : decode cX_bytes 73 = .ok (.iload 6, 2) := by decide +kernel
theorem dX_bytes_75 : decode cX_bytes 75 = .ok (.invokevirtual 304, 3) := by decide +kernel
theorem dX_bytes_78 : decode cX_bytes 78 = .ok (.goto 12, 3) := by decide +kernel
theorem dX_bytes_81 : decode cX_bytes 81 = .ok (.aload_n 0, 1) := by decide +kernel
theorem dX_bytes_82 : decode cX_bytes 82 = .ok (.iload_n 2, 1) := by decide +kernel
theorem dX_bytes_83 : decode cX_bytes 83 = .ok (.lload 4, 2) := by decide +kernel
theorem dX_bytes_85 : decode cX_bytes 85 = .ok (.iload 6, 2) := by decide +kernel
theorem dX_bytes_87 : decode cX_bytes 87 = .ok (.invokevirtual 308, 3) := by decide +kernel
theorem dX_bytes_90 : decode cX_bytes 90 = .ok (.return_, 1) := by decide +kernel
theorem dX_position_0 : decode cX_position 0 = .ok (.lload_n 0, 1) := by decide +kernel
theorem dX_position_1 : decode cX_position 1 = .ok (.bipush 30, 2) := by decide +kernel
theorem dX_position_3 : decode cX_position 3 = .ok (.lushr, 1) := by decide +kernel
theorem dX_position_4 : decode cX_position 4 = .ok (.l2i, 1) := by decide +kernel
theorem dX_position_5 : decode cX_position 5 = .ok (.bipush 63, 2) := by decide +kernel
theorem dX_position_7 : decode cX_position 7 = .ok (.iand, 1) := by decide +kernel
theorem dX_position_8 : decode cX_position 8 = .ok (.ireturn, 1) := by decide +kernel
theorem dX_size_0 : decode cX_size 0 = .ok (.lload_n 0, 1) := by decide +kernel
theorem dX_size_1 : decode cX_size 1 = .ok (.bipush 24, 2) := by decide +kernel
theorem dX_size_3 : decode cX_size 3 = .ok (.lushr, 1) := by decide +kernel
theorem dX_size_4 : decode cX_size 4 = .ok (.l2i, 1) := by decide +kernel
theorem dX_size_5 : decode cX_size 5 = .ok (.bipush 63, 2) := by decide +kernel
theorem dX_size_7 : decode cX_size 7 = .ok (.iand, 1) := by decide +kernel
theorem dX_size_8 : decode cX_size 8 = .ok (.ireturn, 1) := by decide +kernel
theorem dX_byteMask_0 : decode cX_byteMask 0 = .ok (.lconst 1, 1) := by decide +kernel
theorem dX_byteMask_1 : decode cX_byteMask 1 = .ok (.lload_n 0, 1) := by decide +kernel
theorem dX_byteMask_2 : decode cX_byteMask 2 = .ok (.invokestatic 311, 3) := by decide +kernel
theorem dX_byteMask_5 : decode cX_byteMask 5 = .ok (.bipush 36, 2) := by decide +kernel
theorem dX_byteMask_7 : decode cX_byteMask 7 = .ok (.invokestatic 264, 3) := by decide +kernel
theorem dX_byteMask_10 : decode cX_byteMask 10 = .ok (.lshl, 1) := by decide +kernel
theorem dX_byteMask_11 : decode cX_byteMask 11 = .ok (.lconst 1, 1) := by decide +kernel
theorem dX_byteMask_12 : decode cX_byteMask 12 = .ok (.lsub, 1) := by decide +kernel
theorem dX_byteMask_13 : decode cX_byteMask 13 = .ok (.lreturn, 1) := by decide +kernel
theorem dX_advancePointer_0 : decode cX_advancePointer 0 = .ok (.aload_n 0, 1) := by decide +kernel
theorem dX_advancePointer_1 : decode cX_advancePointer 1 = .ok (.iload_n 1, 1) := by decide +kernel
theorem dX_advancePointer_2 : decode cX_advancePointer 2 = .ok (.invokevirtual 73, 3) := by decide +kernel
theorem dX_advancePointer_5 : decode cX_advancePointer 5 = .ok (.lstore_n 2, 1) := by decide +kernel
theorem dX_advancePointer_6 : decode cX_advancePointer 6 = .ok (.lload_n 2, 1) := by decide +kernel
theorem dX_advancePointer_7 : decode cX_advancePointer 7 = .ok (.invokestatic 314, 3) := by decide +kernel
theorem dX_advancePointer_10 : decode cX_advancePointer 10 = .ok (.lload_n 2, 1) := by decide +kernel
theorem dX_advancePointer_11 : decode cX_advancePointer 11 = .ok (.invokestatic 311, 3) := by decide +kernel
theorem dX_advancePointer_14 : decode cX_advancePointer 14 = .ok (.isub, 1) := by decide +kernel
theorem dX_advancePointer_15 : decode cX_advancePointer 15 = .ok (.istore 4, 2) := by decide +kernel
theorem dX_advancePointer_17 : decode cX_advancePointer 17 = .ok (.lload_n 2, 1) := by decide +kernel
theorem dX_advancePointer_18 : decode cX_advancePointer 18 = .ok (.invokestatic 164, 3) := by decide +kernel
theorem dX_advancePointer_21 : decode cX_advancePointer 21 = .ok (.istore 5, 2) := by decide +kernel
theorem dX_advancePointer_23 : decode cX_advancePointer 23 = .ok (.iload 4, 2) := by decide +kernel
theorem dX_advancePointer_25 : decode cX_advancePointer 25 = .ok (.ifCond .ge 25, 3) := by decide +kernel
theorem dX_advancePointer_28 : decode cX_advancePointer 28 = .ok (.iload 5, 2) := by decide +kernel
theorem dX_advancePointer_30 : decode cX_advancePointer 30 = .ok (.iconst 1, 1) := by decide +kernel
theorem dX_advancePointer_31 : decode cX_advancePointer 31 = .ok (.iadd, 1) := by decide +kernel
theorem dX_advancePointer_32 : decode cX_advancePointer 32 = .ok (.invokestatic 77, 3) := by decide +kernel
theorem dX_advancePointer_35 : decode cX_advancePointer 35 = .ok (.istore 5, 2) := by decide +kernel
theorem dX_advancePointer_37 : decode cX_advancePointer 37 = .ok (.bipush 36, 2) := by decide +kernel
theorem dX_advancePointer_39 : decode cX_advancePointer 39 = .ok (.lload_n 2, 1) := by decide +kernel
theorem dX_advancePointer_40 : decode cX_advancePointer 40 = .ok (.invokestatic 311, 3) := by decide +kernel
theorem dX_advancePointer_43 : decode cX_advancePointer 43 = .ok (.isub, 1) := by decide +kernel
theorem dX_advancePointer_44 : decode cX_advancePointer 44 = .ok (.iconst 0, 1) := by decide +kernel
theorem dX_advancePointer_45 : decode cX_advancePointer 45 = .ok (.invokestatic 288, 3) := by decide +kernel
theorem dX_advancePointer_48 : decode cX_advancePointer 48 = .ok (.istore 4, 2) := by decide +kernel
theorem dX_advancePointer_50 : decode cX_advancePointer 50 = .ok (.lload_n 2, 1) := by decide +kernel
theorem dX_advancePointer_51 : decode cX_advancePointer 51 = .ok (.invokestatic 167, 3) := by decide +kernel
theorem dX_advancePointer_54 : decode cX_advancePointer 54 = .ok (.sipush 4095, 3) := by decide +kernel
theorem dX_advancePointer_57 : decode cX_advancePointer 57 = .ok (.iand, 1) := by decide +kernel
theorem dX_advancePointer_58 : decode cX_advancePointer 58 = .ok (.istore 6, 2) := by decide +kernel
theorem dX_advancePointer_60 : decode cX_advancePointer 60 = .ok (.aload_n 0, 1) := by decide +kernel
theorem dX_advancePointer_61 : decode cX_advancePointer 61 = .ok (.iload_n 1, 1) := by decide +kernel
theorem dX_advancePointer_62 : decode cX_advancePointer 62 = .ok (.iload 4, 2) := by decide +kernel
theorem dX_advancePointer_64 : decode cX_advancePointer 64 = .ok (.bipush 12, 2) := by decide +kernel
theorem dX_advancePointer_66 : decode cX_advancePointer 66 = .ok (.ishl, 1) := by decide +kernel
theorem dX_advancePointer_67 : decode cX_advancePointer 67 = .ok (.iload 6, 2) := by decide +kernel
theorem dX_advancePointer_69 : decode cX_advancePointer 69 = .ok (.ior, 1) := by decide +kernel
theorem dX_advancePointer_70 : decode cX_advancePointer 70 = .ok (.iload 5, 2) := by decide +kernel
theorem dX_advancePointer_72 : decode cX_advancePointer 72 = .ok (.invokestatic 106, 3) := by decide +kernel
theorem dX_advancePointer_75 : decode cX_advancePointer 75 = .ok (.invokevirtual 176, 3) := by decide +kernel
theorem dX_advancePointer_78 : decode cX_advancePointer 78 = .ok (.return_, 1) := by decide +kernel
theorem dX_loadByte_0 : decode cX_loadByte 0 = .ok (.aload_n 0, 1) := by decide +kernel
theorem dX_loadByte_1 : decode cX_loadByte 1 = .ok (.iload 4, 2) := by decide +kernel
theorem dX_loadByte_3 : decode cX_loadByte 3 = .ok (.invokevirtual 73, 3) := by decide +kernel
theorem dX_loadByte_6 : decode cX_loadByte 6 = .ok (.lstore 5, 2) := by decide +kernel
theorem dX_loadByte_8 : decode cX_loadByte 8 = .ok (.aload_n 0, 1) := by decide +kernel
theorem dX_loadByte_9 : decode cX_loadByte 9 = .ok (.iload_n 1, 1) := by decide +kernel
theorem dX_loadByte_10 : decode cX_loadByte 10 = .ok (.lload 5, 2) := by decide +kernel
theorem dX_loadByte_12 : decode cX_loadByte 12 = .ok (.lload_n 2, 1) := by decide +kernel
theorem dX_loadByte_13 : decode cX_loadByte 13 = .ok (.invokestatic 314, 3) := by decide +kernel
theorem dX_loadByte_16 : decode cX_loadByte 16 = .ok (.lushr, 1) := by decide +kernel
theorem dX_loadByte_17 : decode cX_loadByte 17 = .ok (.lload_n 2, 1) := by decide +kernel
theorem dX_loadByte_18 : decode cX_loadByte 18 = .ok (.invokestatic 317, 3) := by decide +kernel
theorem dX_loadByte_21 : decode cX_loadByte 21 = .ok (.land, 1) := by decide +kernel
theorem dX_loadByte_22 : decode cX_loadByte 22 = .ok (.invokevirtual 153, 3) := by decide +kernel
theorem dX_loadByte_25 : decode cX_loadByte 25 = .ok (.return_, 1) := by decide +kernel
theorem dX_depositByte_0 : decode cX_depositByte 0 = .ok (.aload_n 0, 1) := by decide +kernel
theorem dX_depositByte_1 : decode cX_depositByte 1 = .ok (.iload 4, 2) := by decide +kernel
theorem dX_depositByte_3 : decode cX_depositByte 3 = .ok (.invokevirtual 73, 3) := by decide +kernel
theorem dX_depositByte_6 : decode cX_depositByte 6 = .ok (.lstore 5, 2) := by decide +kernel
theorem dX_depositByte_8 : decode cX_depositByte 8 = .ok (.lload_n 2, 1) := by decide +kernel
theorem dX_depositByte_9 : decode cX_depositByte 9 = .ok (.invokestatic 317, 3) := by decide +kernel
theorem dX_depositByte_12 : decode cX_depositByte 12 = .ok (.lload_n 2, 1) := by decide +kernel
theorem dX_depositByte_13 : decode cX_depositByte 13 = .ok (.invokestatic 314, 3) := by decide +kernel
theorem dX_depositByte_16 : decode cX_depositByte 16 = .ok (.lshl, 1) := by decide +kernel
theorem dX_depositByte_17 : decode cX_depositByte 17 = .ok (.ldc2_w 17, 3) := by decide +kernel
theorem dX_depositByte_20 : decode cX_depositByte 20 = .ok (.land, 1) := by decide +kernel
theorem dX_depositByte_21 : decode cX_depositByte 21 = .ok (.lstore 7, 2) := by decide +kernel
theorem dX_depositByte_23 : decode cX_depositByte 23 = .ok (.aload_n 0, 1) := by decide +kernel
theorem dX_depositByte_24 : decode cX_depositByte 24 = .ok (.iload 4, 2) := by decide +kernel
theorem dX_depositByte_26 : decode cX_depositByte 26 = .ok (.lload 5, 2) := by decide +kernel
theorem dX_depositByte_28 : decode cX_depositByte 28 = .ok (.lload 7, 2) := by decide +kernel
theorem dX_depositByte_30 : decode cX_depositByte 30 = .ok (.ldc2_w 19, 3) := by decide +kernel
theorem dX_depositByte_33 : decode cX_depositByte 33 = .ok (.lxor, 1) := by decide +kernel
theorem dX_depositByte_34 : decode cX_depositByte 34 = .ok (.land, 1) := by decide +kernel
theorem dX_depositByte_35 : decode cX_depositByte 35 = .ok (.aload_n 0, 1) := by decide +kernel
theorem dX_depositByte_36 : decode cX_depositByte 36 = .ok (.getfield 9, 3) := by decide +kernel
theorem dX_depositByte_39 : decode cX_depositByte 39 = .ok (.iload_n 1, 1) := by decide +kernel
theorem dX_depositByte_40 : decode cX_depositByte 40 = .ok (.laload, 1) := by decide +kernel
theorem dX_depositByte_41 : decode cX_depositByte 41 = .ok (.lload_n 2, 1) := by decide +kernel
theorem dX_depositByte_42 : decode cX_depositByte 42 = .ok (.invokestatic 314, 3) := by decide +kernel
theorem dX_depositByte_45 : decode cX_depositByte 45 = .ok (.lshl, 1) := by decide +kernel
theorem dX_depositByte_46 : decode cX_depositByte 46 = .ok (.lload 7, 2) := by decide +kernel
theorem dX_depositByte_48 : decode cX_depositByte 48 = .ok (.land, 1) := by decide +kernel
theorem dX_depositByte_49 : decode cX_depositByte 49 = .ok (.lor, 1) := by decide +kernel
theorem dX_depositByte_50 : decode cX_depositByte 50 = .ok (.invokevirtual 176, 3) := by decide +kernel
theorem dX_depositByte_53 : decode cX_depositByte 53 = .ok (.return_, 1) := by decide +kernel
end
section
/-! Rows of my own over the kit's: a world given by a state (wd : S → va_W), contracts of three kinds (M: changes the state, R: reads it, P: static and pure). -/
def nmv {α β : Type} (a : α) (f : α → β) : β := f a
theorem nm_at {α β : Type} {a v : α} {f : α → β} {r : β} (h : nmv a f = r) (e : v = a) : f v = r := by subst e; exact h
theorem ck_if {α : Type} {c : Prop} [Decidable c] {a : Option α} {r : α} (h : (if c then none else a) = some r) : ¬ c ∧ a = some r := by
  by_cases hc : c
  · rw [if_pos hc] at h; cases h
  · rw [if_neg hc] at h; exact ⟨hc, h⟩
theorem bd_ob {α β : Type} {o : Option α} {f : α → Option β} {r : β} (h : o.bind f = some r) : ∃ z, o = some z ∧ f z = some r := by
  cases o with
  | none => cases h
  | some z => exact ⟨z, rfl, h⟩
section GG
variable {S : Type}
def gB (D : va_G) (tys : List (ClassId × FieldType)) (wd : S → va_W) (u : S) (U : State) : Prop := va_P D vwCl (wd u) U.heap ∧ va_K D vwCl tys U
def gI (D : va_G) (wd : S → va_W) (A : Nat → Prop) (H0 H : Heap) (locs : List Loc) (u : S) : Prop := va_P D vwCl (wd u) H ∧ va_S A H0 H locs
abbrev gMi (l : Launch) (y : MethodName) (ws : List Cond) (rm : Room) (D : va_G) (tys : List (ClassId × FieldType)) (wd : S → va_W) (A : Nat → Prop) (av : List Value) (u : S) (z : Int32 × S) : Prop := Met l y ws rm (va_Pc av (gB D tys wd u)) (va_Qi (fun r x => (r, x) = z) (gB D tys wd) A) 0 0 A
abbrev gMl (l : Launch) (y : MethodName) (ws : List Cond) (rm : Room) (D : va_G) (tys : List (ClassId × FieldType)) (wd : S → va_W) (A : Nat → Prop) (av : List Value) (u : S) (z : Int64 × S) : Prop := Met l y ws rm (va_Pc av (gB D tys wd u)) (va_Ql (fun r x => (r, x) = z) (gB D tys wd) A) 0 0 A
abbrev gMv (l : Launch) (y : MethodName) (ws : List Cond) (rm : Room) (D : va_G) (tys : List (ClassId × FieldType)) (wd : S → va_W) (A : Nat → Prop) (av : List Value) (u : S) (z : S) : Prop := Met l y ws rm (va_Pc av (gB D tys wd u)) (va_Qv (fun x => x = z) (gB D tys wd) A) 0 0 A
abbrev gRi (l : Launch) (y : MethodName) (ws : List Cond) (rm : Room) (D : va_G) (tys : List (ClassId × FieldType)) (wd : S → va_W) (av : List Value) (u : S) (z : Int32) : Prop := Met l y ws rm (va_Pc av (gB D tys wd u)) (vp_Si (fun r => r = z)) 0 0 (fun _ => False)
abbrev gRl (l : Launch) (y : MethodName) (ws : List Cond) (rm : Room) (D : va_G) (tys : List (ClassId × FieldType)) (wd : S → va_W) (av : List Value) (u : S) (z : Int64) : Prop := Met l y ws rm (va_Pc av (gB D tys wd u)) (vp_Sl (fun r => r = z)) 0 0 (fun _ => False)
end GG
abbrev gPi (l : Launch) (y : MethodName) (ws : List Cond) (rm : Room) (av : List Value) (z : Int32) : Prop := Met l y ws rm (va_Pc av (fun _ => True)) (vp_Si (fun r => r = z)) 0 0 (fun _ => False)
abbrev gPl (l : Launch) (y : MethodName) (ws : List Cond) (rm : Room) (av : List Value) (z : Int64) : Prop := Met l y ws rm (va_Pc av (fun _ => True)) (vp_Sl (fun r => r = z)) 0 0 (fun _ => False)
/-- the room of a method: how deep its calls go, how many words of locals they take -/
def rmF (f n : Nat) : Room := { frames := f, cells := 0, slots := 0, locals := n }
theorem i32_ne {x : Int32} (v : Int32) (k : Int) (hk : v.toInt = k) (h : ¬ x = v) : x.toInt ≠ k := fun e => h (Int32.toInt_inj.mp (by rw [e, hk]))
theorem nar_z {v : Int32} (h : v = 0 ∨ v = 1) : narrow .boolean (.int v) = .int v := by rcases h with rfl | rfl <;> rfl
theorem fit_z {v : Int32} (h : v = 0 ∨ v = 1) : fits .boolean (.int v) = true := by rcases h with rfl | rfl <;> rfl
theorem va_D_nd {A : Nat → Prop} {ws : va_W} (h : va_nd (ws.map fun x => x.1) = true) (hA : ∀ a ∈ ws.map (fun x => x.1), A a) : va_D A ws := by
  refine ⟨fun i j p q hi hj e => va_nd_inj _ h i j p.1 ?_ ?_, fun k q hk => hA _ (List.mem_map.mpr ⟨q, List.mem_of_getElem? hk, rfl⟩)⟩
  · rw [List.getElem?_map, hi]; rfl
  · rw [List.getElem?_map, hj, e]; rfl
theorem good_cons {big : List Cond} {w : Cond} (hg : GoodIn big big) (h : w ∈ big) : GoodIn big (w :: big) := fun v hv => by
  rcases List.mem_cons.mp hv with rfl | hv
  · exact hg _ h
  · exact hg _ hv
theorem good_one {big : List Cond} {w : Cond} (hg : GoodIn big big) (h : w ∈ big) : GoodIn big [w] := fun v hv => by
  rcases List.mem_cons.mp hv with rfl | hv
  · exact hg _ h
  · exact absurd hv List.not_mem_nil
theorem g_blindP (av : List Value) : FrameBlind (va_Pc av (fun _ => True)) := fun a U g mk h => h
theorem g_blind {S : Type} (D : va_G) (tys : List (ClassId × FieldType)) (wd : S → va_W) (av : List Value) (u : S) : FrameBlind (va_Pc av (gB D tys wd u)) := fun a U g mk h => ⟨h.1, h.2.1, va_K.moved (u := U) (U := U.calling g mk a) (Vm.Alike.refl U.vm) h.2.2⟩
/-- a contract's proof begins (of a JDK method too, where no native row stands for it) -/
theorem g_start {l : Launch} {y : MethodName} {cc : ByteArray} {maxL : Nat} {ret : Option FieldType} {Ts : List Cond} {rm : Room} {av : List Value} {B : State → Prop} {Qc : Array Value → State → Outcome → State → Prop} {free : Addr → Prop} (hy : plainFor y = true) (hlen : (lg_sl av).length ≤ maxL)
    (body : ∀ (p : Program) (e : Env) (s0 : State) (m : MethodId) (args : Array Value) (below : List Frame) (meth : Method) (c : Code) (ls : Array Slot), CallFix p m c cc maxL s0 args Ts y.cls → meth.sig.returnType = ret → meth.locks = false → B s0 → lv_has ls maxL (lv_args 0 av) → W p l e rm s0 m args below meth c s0.heap [] 0 0 (MQ below Qc args s0 0 0 free) (F0 m 0 ls [])) :
    Met l y (Cond.code y cc maxL ret :: Ts) rm (va_Pc av B) Qc 0 0 free := by
  refine MetFree.of_bodySF (code := cc) (maxLocals := maxL) (ret := ret) hy ?_ ?_
  · intro args s m h hn
    obtain ⟨meth, c, h1, h2, h3, h4, h5, h6, -, -⟩ := Cond.code_spec hn (atoms_spec (ws := Cond.code y cc maxL ret :: Ts) h _ List.mem_cons_self)
    exact ⟨meth, c, h1, h2, h3, h4, h5, h6⟩
  · intro p e s0 m args below meth c s₁ X hml hv _
    obtain ⟨rfl, hB⟩ := hv
    have hts := atoms_spec (ws := Cond.code y cc maxL ret :: Ts) X.pre
    have hl := lv_entry av (n := maxL) hlen
    have hh0 : s₁.heap = s0.heap := by rw [X.state]; rfl
    have k := body p e s0 m _ below meth c _ ⟨X.exec, X.bytes, hml, findClass_of_methodNamed X.named, fun w h => hts w (List.mem_cons_of_mem _ h)⟩ X.returns X.notSynchronized hB hl
    rw [← lg_entry_eq] at k
    obtain ⟨t, a1, o, b1, b2, b3⟩ := k s₁ hh0 (Stand.of_body X)
    exact ⟨t, o, a1, b1, b2, ⟨b3.1, b3.2⟩⟩
section GR
variable {p : Program} {l : Launch} {e : Env} {R : Room} {s0 : State} {m : MethodId} {args : Array Value} {below : List Frame} {meth : Method} {c : Code} {H : Heap} {locs : List Loc} {Q : State → Prop} {pc : Nat} {ls : Array Slot} {rest st0 : List Value} {cc : ByteArray} {nL : Nat} {Ts : List Cond} {own : String}
variable {S : Type} {D : va_G} {tys : List (ClassId × FieldType)} {wd : S → va_W} {A : Nat → Prop} {u : S}
theorem g_iret {v : Int32} {z : Int32 × S} (X : CallFix p m c cc nL s0 args Ts own) (hr : meth.sig.returnType = some .int) (hlk : meth.locks = false) (hK : va_K D vwCl tys s0) (hI : gI D wd A s0.heap H locs u) (hfin : some (v, u) = some z) (d : decode cc pc = .ok (.ireturn, 1)) : W p l e R s0 m args below meth c H locs 0 0 (MQ below (va_Qi (fun r x => (r, x) = z) (gB D tys wd) A) args s0 0 0 A) (F0 m pc ls [.int v]) :=
  W.iret X.1 X.2.1 hr (fun t ht hW => ⟨⟨v, u, rfl, Option.some.inj hfin, by rw [ht]; exact hI.1, va_K.moved hW.alike hK⟩, hI.2.F ht⟩) hI.2.2.2 d hlk
theorem g_zret {v : Int32} {z : Int32 × S} (X : CallFix p m c cc nL s0 args Ts own) (hr : meth.sig.returnType = some .boolean) (hlk : meth.locks = false) (hz : narrow .boolean (.int v) = .int v) (hK : va_K D vwCl tys s0) (hI : gI D wd A s0.heap H locs u) (hfin : some (v, u) = some z) (d : decode cc pc = .ok (.ireturn, 1)) : W p l e R s0 m args below meth c H locs 0 0 (MQ below (va_Qi (fun r x => (r, x) = z) (gB D tys wd) A) args s0 0 0 A) (F0 m pc ls [.int v]) :=
  W.zret X.1 X.2.1 hr hz (fun t ht hW => ⟨⟨v, u, rfl, Option.some.inj hfin, by rw [ht]; exact hI.1, va_K.moved hW.alike hK⟩, hI.2.F ht⟩) hI.2.2.2 d hlk
theorem g_lret {v : Int64} {z : Int64 × S} (X : CallFix p m c cc nL s0 args Ts own) (hr : meth.sig.returnType = some .long) (hlk : meth.locks = false) (hK : va_K D vwCl tys s0) (hI : gI D wd A s0.heap H locs u) (hfin : some (v, u) = some z) (d : decode cc pc = .ok (.lreturn, 1)) : W p l e R s0 m args below meth c H locs 0 0 (MQ below (va_Ql (fun r x => (r, x) = z) (gB D tys wd) A) args s0 0 0 A) (F0 m pc ls [.long v]) :=
  W.lret X.1 X.2.1 hr (fun t ht hW => ⟨⟨v, u, rfl, Option.some.inj hfin, by rw [ht]; exact hI.1, va_K.moved hW.alike hK⟩, hI.2.F ht⟩) hI.2.2.2 d hlk
theorem g_vret {z : S} (X : CallFix p m c cc nL s0 args Ts own) (hr : meth.sig.returnType = none) (hlk : meth.locks = false) (hK : va_K D vwCl tys s0) (hI : gI D wd A s0.heap H locs u) (hfin : some u = some z) (d : decode cc pc = .ok (.return_, 1)) : W p l e R s0 m args below meth c H locs 0 0 (MQ below (va_Qv (fun x => x = z) (gB D tys wd) A) args s0 0 0 A) (F0 m pc ls []) :=
  W.vret X.1 X.2.1 hr (fun t ht hW => ⟨⟨u, rfl, Option.some.inj hfin, by rw [ht]; exact hI.1, va_K.moved hW.alike hK⟩, hI.2.F ht⟩) hI.2.2.2 d hlk
theorem g_iretP {v z : Int32} (X : CallFix p m c cc nL s0 args Ts own) (hr : meth.sig.returnType = some .int) (hlk : meth.locks = false) (hfin : v = z) (d : decode cc pc = .ok (.ireturn, 1)) : W p l e R s0 m args below meth c s0.heap [] 0 0 (MQ below (vp_Si (fun r => r = z)) args s0 0 0 (fun _ => False)) (F0 m pc ls [.int v]) :=
  W.iret X.1 X.2.1 hr (fun t ht hW => ⟨v, rfl, hfin, ht⟩) (fun q h => absurd h List.not_mem_nil) d hlk
theorem g_zretP {v z : Int32} (X : CallFix p m c cc nL s0 args Ts own) (hr : meth.sig.returnType = some .boolean) (hlk : meth.locks = false) (hz : narrow .boolean (.int v) = .int v) (hfin : v = z) (d : decode cc pc = .ok (.ireturn, 1)) : W p l e R s0 m args below meth c s0.heap [] 0 0 (MQ below (vp_Si (fun r => r = z)) args s0 0 0 (fun _ => False)) (F0 m pc ls [.int v]) :=
  W.zret X.1 X.2.1 hr hz (fun t ht hW => ⟨v, rfl, hfin, ht⟩) (fun q h => absurd h List.not_mem_nil) d hlk
theorem g_lretP {v z : Int64} (X : CallFix p m c cc nL s0 args Ts own) (hr : meth.sig.returnType = some .long) (hlk : meth.locks = false) (hfin : v = z) (d : decode cc pc = .ok (.lreturn, 1)) : W p l e R s0 m args below meth c s0.heap [] 0 0 (MQ below (vp_Sl (fun r => r = z)) args s0 0 0 (fun _ => False)) (F0 m pc ls [.long v]) :=
  W.lret X.1 X.2.1 hr (fun t ht hW => ⟨v, rfl, hfin, ht⟩) (fun q h => absurd h List.not_mem_nil) d hlk
variable {y : MethodName} {bytes : ByteArray} {maxL index n : Nat} {ret : Option FieldType} {ws : List Cond} {rm : Room} {C : String} {b : Nat}
/-- a call of a static pure method -/
theorem g_callPi (As rest : List Value) {z : Int32} (X : CallFix p m c cc nL s0 args Ts own) (hM : gPi l y ws rm As z) (cw : CallB R s0 args own index y bytes maxL ret ws rm 0 0 n ∧ (Cond.static y).before args s0 = true) (hn : As.length = n) (hsz : ls.size = nL) (hst : st0 = As.reverse ++ rest) (hW : (rest.map fun v => v.category).sum ≤ 8) (d : decode cc pc = .ok (.invokestatic index, 3))
    (kk : W p l e R s0 m args below meth c H locs 0 0 Q (F0 m (pc + 3) ls (.int z :: rest))) : W p l e R s0 m args below meth c H locs 0 0 Q (F0 m pc ls st0) :=
  vp_callSi (W.runS (As := As) (rest := rest) (g := F0 m pc ls st0) X hM cw ⟨g_blindP As, fun U hU hW => ⟨rfl, trivial⟩⟩ rfl hn hsz hst (lv_room (pc := pc) (ls := ls) (rest := st0) hW) d ⟨Nat.zero_le _, Nat.zero_le _⟩) (fun r hr => by rw [hr]; exact kk)
theorem g_callPl (As rest : List Value) {z : Int64} (X : CallFix p m c cc nL s0 args Ts own) (hM : gPl l y ws rm As z) (cw : CallB R s0 args own index y bytes maxL ret ws rm 0 0 n ∧ (Cond.static y).before args s0 = true) (hn : As.length = n) (hsz : ls.size = nL) (hst : st0 = As.reverse ++ rest) (hW : (rest.map fun v => v.category).sum ≤ 8) (d : decode cc pc = .ok (.invokestatic index, 3))
    (kk : W p l e R s0 m args below meth c H locs 0 0 Q (F0 m (pc + 3) ls (.long z :: rest))) : W p l e R s0 m args below meth c H locs 0 0 Q (F0 m pc ls st0) :=
  vp_callSl (W.runS (As := As) (rest := rest) (g := F0 m pc ls st0) X hM cw ⟨g_blindP As, fun U hU hW => ⟨rfl, trivial⟩⟩ rfl hn hsz hst (lv_room (pc := pc) (ls := ls) (rest := st0) hW) d ⟨Nat.zero_le _, Nat.zero_le _⟩) (fun r hr => by rw [hr]; exact kk)
/-- the receiver is there -/
def g_rcv (D : va_G) (tys : List (ClassId × FieldType)) (wd : S → va_W) (s0 : State) (C : String) (b : Nat) : Prop := ∀ (u : S) (H : Heap), va_K D vwCl tys s0 → va_P D vwCl (wd u) H → ∃ cellB : Cell, H[b]? = some cellB ∧ cellB.vm.isStatics = false ∧ s0.vm.findClass C = some cellB.cls
/-- a call of a method that reads -/
theorem g_callRi (As rest : List Value) {z : Int32} (X : CallFix p m c cc nL s0 args Ts own) (hK : va_K D vwCl tys s0) (hv : g_rcv D tys wd s0 C b) (hP : va_P D vwCl (wd u) H) (hM : gRi l y ws rm D tys wd (.ref b :: As) u z) (cw : CallW R s0 args own C index y bytes maxL ret ws rm 0 0 n) (hn : As.length = n) (hsz : ls.size = nL) (hst : st0 = As.reverse ++ .ref b :: rest) (hW : (rest.map fun v => v.category).sum ≤ 8) (d : decode cc pc = .ok (.invokevirtual index, 3))
    (kk : W p l e R s0 m args below meth c H locs 0 0 Q (F0 m (pc + 3) ls (.int z :: rest))) : W p l e R s0 m args below meth c H locs 0 0 Q (F0 m pc ls st0) :=
  vp_callSi (W.runV (As := As) (rest := rest) (g := F0 m pc ls st0) X hM cw ⟨g_blind D tys wd _ u, hv u H hK hP, fun U hU hW => ⟨rfl, by rw [hU]; exact hP, va_K.moved hW.alike hK⟩⟩ rfl hn hsz hst (lv_room (pc := pc) (ls := ls) (rest := st0) hW) d ⟨Nat.zero_le _, Nat.zero_le _⟩) (fun r hr => by rw [hr]; exact kk)
theorem g_callRl (As rest : List Value) {z : Int64} (X : CallFix p m c cc nL s0 args Ts own) (hK : va_K D vwCl tys s0) (hv : g_rcv D tys wd s0 C b) (hP : va_P D vwCl (wd u) H) (hM : gRl l y ws rm D tys wd (.ref b :: As) u z) (cw : CallW R s0 args own C index y bytes maxL ret ws rm 0 0 n) (hn : As.length = n) (hsz : ls.size = nL) (hst : st0 = As.reverse ++ .ref b :: rest) (hW : (rest.map fun v => v.category).sum ≤ 8) (d : decode cc pc = .ok (.invokevirtual index, 3))
    (kk : W p l e R s0 m args below meth c H locs 0 0 Q (F0 m (pc + 3) ls (.long z :: rest))) : W p l e R s0 m args below meth c H locs 0 0 Q (F0 m pc ls st0) :=
  vp_callSl (W.runV (As := As) (rest := rest) (g := F0 m pc ls st0) X hM cw ⟨g_blind D tys wd _ u, hv u H hK hP, fun U hU hW => ⟨rfl, by rw [hU]; exact hP, va_K.moved hW.alike hK⟩⟩ rfl hn hsz hst (lv_room (pc := pc) (ls := ls) (rest := st0) hW) d ⟨Nat.zero_le _, Nat.zero_le _⟩) (fun r hr => by rw [hr]; exact kk)
/-- a call of a method that changes the state -/
theorem g_callMi (As rest : List Value) {z : Int32 × S} (X : CallFix p m c cc nL s0 args Ts own) (hK : va_K D vwCl tys s0) (hv : g_rcv D tys wd s0 C b) (hI : gI D wd A s0.heap H locs u) (hM : gMi l y ws rm D tys wd A (.ref b :: As) u z) (cw : CallW R s0 args own C index y bytes maxL ret ws rm 0 0 n) (hn : As.length = n) (hsz : ls.size = nL) (hst : st0 = As.reverse ++ .ref b :: rest) (hW : (rest.map fun v => v.category).sum ≤ 8) (d : decode cc pc = .ok (.invokevirtual index, 3))
    (kk : ∀ (H : Heap) (locs : List Loc), gI D wd A s0.heap H locs z.2 → W p l e R s0 m args below meth c H locs 0 0 Q (F0 m (pc + 3) ls (.int z.1 :: rest))) : W p l e R s0 m args below meth c H locs 0 0 Q (F0 m pc ls st0) := by
  refine va_calli (va_runV (As := As) (rest := rest) (g := F0 m pc ls st0) X hM cw ⟨g_blind D tys wd _ u, hv u H hK hI.1, fun U hU hW => ⟨rfl, by rw [hU]; exact hI.1, va_K.moved hW.alike hK⟩⟩ rfl hn hsz hst (lv_room (pc := pc) (ls := ls) (rest := st0) hW) d ⟨Nat.zero_le _, Nat.zero_le _⟩) hI.2 (fun q _ h => h) (fun q h => h) (fun r x t H1 locs1 ht hvm hp hB hz1 hk1 hS => ?_)
  subst hp
  exact kk H1 locs1 ⟨by rw [← ht]; exact hB.1, hS⟩
theorem g_callMl (As rest : List Value) {z : Int64 × S} (X : CallFix p m c cc nL s0 args Ts own) (hK : va_K D vwCl tys s0) (hv : g_rcv D tys wd s0 C b) (hI : gI D wd A s0.heap H locs u) (hM : gMl l y ws rm D tys wd A (.ref b :: As) u z) (cw : CallW R s0 args own C index y bytes maxL ret ws rm 0 0 n) (hn : As.length = n) (hsz : ls.size = nL) (hst : st0 = As.reverse ++ .ref b :: rest) (hW : (rest.map fun v => v.category).sum ≤ 8) (d : decode cc pc = .ok (.invokevirtual index, 3))
    (kk : ∀ (H : Heap) (locs : List Loc), gI D wd A s0.heap H locs z.2 → W p l e R s0 m args below meth c H locs 0 0 Q (F0 m (pc + 3) ls (.long z.1 :: rest))) : W p l e R s0 m args below meth c H locs 0 0 Q (F0 m pc ls st0) := by
  refine va_calll (va_runV (As := As) (rest := rest) (g := F0 m pc ls st0) X hM cw ⟨g_blind D tys wd _ u, hv u H hK hI.1, fun U hU hW => ⟨rfl, by rw [hU]; exact hI.1, va_K.moved hW.alike hK⟩⟩ rfl hn hsz hst (lv_room (pc := pc) (ls := ls) (rest := st0) hW) d ⟨Nat.zero_le _, Nat.zero_le _⟩) hI.2 (fun q _ h => h) (fun q h => h) (fun r x t H1 locs1 ht hvm hp hB hz1 hk1 hS => ?_)
  subst hp
  exact kk H1 locs1 ⟨by rw [← ht]; exact hB.1, hS⟩
theorem g_callMv (As rest : List Value) {z : S} (X : CallFix p m c cc nL s0 args Ts own) (hK : va_K D vwCl tys s0) (hv : g_rcv D tys wd s0 C b) (hI : gI D wd A s0.heap H locs u) (hM : gMv l y ws rm D tys wd A (.ref b :: As) u z) (cw : CallW R s0 args own C index y bytes maxL ret ws rm 0 0 n) (hn : As.length = n) (hsz : ls.size = nL) (hst : st0 = As.reverse ++ .ref b :: rest) (hW : (rest.map fun v => v.category).sum ≤ 8) (d : decode cc pc = .ok (.invokevirtual index, 3))
    (kk : ∀ (H : Heap) (locs : List Loc), gI D wd A s0.heap H locs z → W p l e R s0 m args below meth c H locs 0 0 Q (F0 m (pc + 3) ls rest)) : W p l e R s0 m args below meth c H locs 0 0 Q (F0 m pc ls st0) := by
  refine va_callv (va_runV (As := As) (rest := rest) (g := F0 m pc ls st0) X hM cw ⟨g_blind D tys wd _ u, hv u H hK hI.1, fun U hU hW => ⟨rfl, by rw [hU]; exact hI.1, va_K.moved hW.alike hK⟩⟩ rfl hn hsz hst (lv_room (pc := pc) (ls := ls) (rest := st0) hW) d ⟨Nat.zero_le _, Nat.zero_le _⟩) hI.2 (fun q _ h => h) (fun q h => h) (fun x t H1 locs1 ht hvm hp hB hz1 hk1 hS => ?_)
  subst hp
  exact kk H1 locs1 ⟨by rw [← ht]; exact hB.1, hS⟩
end GR
end
section
abbrev XS : Type := (Nat → Int64) × Int32 × Int32 × Int32 × Int32 × Int32 × Int32 × Int32 × Int32 × Int32 × Int32 × Int32 × Int32 × Int32
def X_words (u : XS) : Nat → Int64 := u.1
def X_lowBase (u : XS) : Int32 := u.2.1
def X_lowBound (u : XS) : Int32 := u.2.2.1
def X_highBase (u : XS) : Int32 := u.2.2.2.1
def X_highBound (u : XS) : Int32 := u.2.2.2.2.1
def X_pc (u : XS) : Int32 := u.2.2.2.2.2.1
def X_user (u : XS) : Int32 := u.2.2.2.2.2.2.1
def X_overflow (u : XS) : Int32 := u.2.2.2.2.2.2.2.1
def X_stopped (u : XS) : Int32 := u.2.2.2.2.2.2.2.2.1
def X_steps (u : XS) : Int32 := u.2.2.2.2.2.2.2.2.2.1
def X_traps (u : XS) : Int32 := u.2.2.2.2.2.2.2.2.2.2.1
def X_latestTrap (u : XS) : Int32 := u.2.2.2.2.2.2.2.2.2.2.2.1
def X_trap (u : XS) : Int32 := u.2.2.2.2.2.2.2.2.2.2.2.2.1
def X_taken (u : XS) : Int32 := u.2.2.2.2.2.2.2.2.2.2.2.2.2
def X_s_words (u : XS) (v : Nat → Int64) : XS := (v, u.2.1, u.2.2.1, u.2.2.2.1, u.2.2.2.2.1, u.2.2.2.2.2.1, u.2.2.2.2.2.2.1, u.2.2.2.2.2.2.2.1, u.2.2.2.2.2.2.2.2.1, u.2.2.2.2.2.2.2.2.2.1, u.2.2.2.2.2.2.2.2.2.2.1, u.2.2.2.2.2.2.2.2.2.2.2.1, u.2.2.2.2.2.2.2.2.2.2.2.2.1, u.2.2.2.2.2.2.2.2.2.2.2.2.2)
def X_s_lowBase (u : XS) (v : Int32) : XS := (u.1, v, u.2.2.1, u.2.2.2.1, u.2.2.2.2.1, u.2.2.2.2.2.1, u.2.2.2.2.2.2.1, u.2.2.2.2.2.2.2.1, u.2.2.2.2.2.2.2.2.1, u.2.2.2.2.2.2.2.2.2.1, u.2.2.2.2.2.2.2.2.2.2.1, u.2.2.2.2.2.2.2.2.2.2.2.1, u.2.2.2.2.2.2.2.2.2.2.2.2.1, u.2.2.2.2.2.2.2.2.2.2.2.2.2)
def X_s_lowBound (u : XS) (v : Int32) : XS := (u.1, u.2.1, v, u.2.2.2.1, u.2.2.2.2.1, u.2.2.2.2.2.1, u.2.2.2.2.2.2.1, u.2.2.2.2.2.2.2.1, u.2.2.2.2.2.2.2.2.1, u.2.2.2.2.2.2.2.2.2.1, u.2.2.2.2.2.2.2.2.2.2.1, u.2.2.2.2.2.2.2.2.2.2.2.1, u.2.2.2.2.2.2.2.2.2.2.2.2.1, u.2.2.2.2.2.2.2.2.2.2.2.2.2)
def X_s_highBase (u : XS) (v : Int32) : XS := (u.1, u.2.1, u.2.2.1, v, u.2.2.2.2.1, u.2.2.2.2.2.1, u.2.2.2.2.2.2.1, u.2.2.2.2.2.2.2.1, u.2.2.2.2.2.2.2.2.1, u.2.2.2.2.2.2.2.2.2.1, u.2.2.2.2.2.2.2.2.2.2.1, u.2.2.2.2.2.2.2.2.2.2.2.1, u.2.2.2.2.2.2.2.2.2.2.2.2.1, u.2.2.2.2.2.2.2.2.2.2.2.2.2)
def X_s_highBound (u : XS) (v : Int32) : XS := (u.1, u.2.1, u.2.2.1, u.2.2.2.1, v, u.2.2.2.2.2.1, u.2.2.2.2.2.2.1, u.2.2.2.2.2.2.2.1, u.2.2.2.2.2.2.2.2.1, u.2.2.2.2.2.2.2.2.2.1, u.2.2.2.2.2.2.2.2.2.2.1, u.2.2.2.2.2.2.2.2.2.2.2.1, u.2.2.2.2.2.2.2.2.2.2.2.2.1, u.2.2.2.2.2.2.2.2.2.2.2.2.2)
def X_s_pc (u : XS) (v : Int32) : XS := (u.1, u.2.1, u.2.2.1, u.2.2.2.1, u.2.2.2.2.1, v, u.2.2.2.2.2.2.1, u.2.2.2.2.2.2.2.1, u.2.2.2.2.2.2.2.2.1, u.2.2.2.2.2.2.2.2.2.1, u.2.2.2.2.2.2.2.2.2.2.1, u.2.2.2.2.2.2.2.2.2.2.2.1, u.2.2.2.2.2.2.2.2.2.2.2.2.1, u.2.2.2.2.2.2.2.2.2.2.2.2.2)
def X_s_user (u : XS) (v : Int32) : XS := (u.1, u.2.1, u.2.2.1, u.2.2.2.1, u.2.2.2.2.1, u.2.2.2.2.2.1, v, u.2.2.2.2.2.2.2.1, u.2.2.2.2.2.2.2.2.1, u.2.2.2.2.2.2.2.2.2.1, u.2.2.2.2.2.2.2.2.2.2.1, u.2.2.2.2.2.2.2.2.2.2.2.1, u.2.2.2.2.2.2.2.2.2.2.2.2.1, u.2.2.2.2.2.2.2.2.2.2.2.2.2)
def X_s_overflow (u : XS) (v : Int32) : XS := (u.1, u.2.1, u.2.2.1, u.2.2.2.1, u.2.2.2.2.1, u.2.2.2.2.2.1, u.2.2.2.2.2.2.1, v, u.2.2.2.2.2.2.2.2.1, u.2.2.2.2.2.2.2.2.2.1, u.2.2.2.2.2.2.2.2.2.2.1, u.2.2.2.2.2.2.2.2.2.2.2.1, u.2.2.2.2.2.2.2.2.2.2.2.2.1, u.2.2.2.2.2.2.2.2.2.2.2.2.2)
def X_s_stopped (u : XS) (v : Int32) : XS := (u.1, u.2.1, u.2.2.1, u.2.2.2.1, u.2.2.2.2.1, u.2.2.2.2.2.1, u.2.2.2.2.2.2.1, u.2.2.2.2.2.2.2.1, v, u.2.2.2.2.2.2.2.2.2.1, u.2.2.2.2.2.2.2.2.2.2.1, u.2.2.2.2.2.2.2.2.2.2.2.1, u.2.2.2.2.2.2.2.2.2.2.2.2.1, u.2.2.2.2.2.2.2.2.2.2.2.2.2)
def X_s_steps (u : XS) (v : Int32) : XS := (u.1, u.2.1, u.2.2.1, u.2.2.2.1, u.2.2.2.2.1, u.2.2.2.2.2.1, u.2.2.2.2.2.2.1, u.2.2.2.2.2.2.2.1, u.2.2.2.2.2.2.2.2.1, v, u.2.2.2.2.2.2.2.2.2.2.1, u.2.2.2.2.2.2.2.2.2.2.2.1, u.2.2.2.2.2.2.2.2.2.2.2.2.1, u.2.2.2.2.2.2.2.2.2.2.2.2.2)
def X_s_traps (u : XS) (v : Int32) : XS := (u.1, u.2.1, u.2.2.1, u.2.2.2.1, u.2.2.2.2.1, u.2.2.2.2.2.1, u.2.2.2.2.2.2.1, u.2.2.2.2.2.2.2.1, u.2.2.2.2.2.2.2.2.1, u.2.2.2.2.2.2.2.2.2.1, v, u.2.2.2.2.2.2.2.2.2.2.2.1, u.2.2.2.2.2.2.2.2.2.2.2.2.1, u.2.2.2.2.2.2.2.2.2.2.2.2.2)
def X_s_latestTrap (u : XS) (v : Int32) : XS := (u.1, u.2.1, u.2.2.1, u.2.2.2.1, u.2.2.2.2.1, u.2.2.2.2.2.1, u.2.2.2.2.2.2.1, u.2.2.2.2.2.2.2.1, u.2.2.2.2.2.2.2.2.1, u.2.2.2.2.2.2.2.2.2.1, u.2.2.2.2.2.2.2.2.2.2.1, v, u.2.2.2.2.2.2.2.2.2.2.2.2.1, u.2.2.2.2.2.2.2.2.2.2.2.2.2)
def X_s_trap (u : XS) (v : Int32) : XS := (u.1, u.2.1, u.2.2.1, u.2.2.2.1, u.2.2.2.2.1, u.2.2.2.2.2.1, u.2.2.2.2.2.2.1, u.2.2.2.2.2.2.2.1, u.2.2.2.2.2.2.2.2.1, u.2.2.2.2.2.2.2.2.2.1, u.2.2.2.2.2.2.2.2.2.2.1, u.2.2.2.2.2.2.2.2.2.2.2.1, v, u.2.2.2.2.2.2.2.2.2.2.2.2.2)
def X_s_taken (u : XS) (v : Int32) : XS := (u.1, u.2.1, u.2.2.1, u.2.2.2.1, u.2.2.2.2.1, u.2.2.2.2.2.1, u.2.2.2.2.2.2.1, u.2.2.2.2.2.2.2.1, u.2.2.2.2.2.2.2.2.1, u.2.2.2.2.2.2.2.2.2.1, u.2.2.2.2.2.2.2.2.2.2.1, u.2.2.2.2.2.2.2.2.2.2.2.1, u.2.2.2.2.2.2.2.2.2.2.2.2.1, v)
def XW (cA : ClassId) (o q : Nat) (u : XS) : va_W := [(o, .inr (0, [.ref q, .int (X_lowBase u), .int (X_lowBound u), .int (X_highBase u), .int (X_highBound u), .int (X_pc u), .int (X_user u), .int (X_overflow u), .int (X_stopped u), .int (X_steps u), .int (X_traps u), .int (X_latestTrap u), .int (X_trap u), .int (X_taken u)])), (q, .inl (cA, 1024, .inr (.inl (X_words u))))]
def XA (o q : Nat) : Nat → Prop := fun a => a ∈ [o, q]
theorem x_D {cA : ClassId} {o q : Nat} (hne : va_nd [o, q] = true) (u : XS) : va_D (XA o q) (XW cA o q u) := va_D_nd hne (fun _ h => h)
theorem x_rcv {D : va_G} {cA : ClassId} {o q : Nat} {s0 : State} : g_rcv D [(cA, .long)] (XW cA o q) s0 RX o := fun u H hK hP => va_recv (ci := 0) (q0 := 0) hK hP rfl rfl
section StX
variable {p : Program} {l : Launch} {e : Env} {R : Room} {s0 : State} {m : MethodId} {args : Array Value} {below : List Frame} {meth : Method} {c : Code} {H : Heap} {locs : List Loc} {Q : State → Prop} {pc : Nat} {ls : Array Slot} {rest : List Value} {cc : ByteArray} {nL : Nat} {D : va_G} {A : Nat → Prop} {cA : ClassId} {o q : Nat} {u : XS}
theorem xg_words (X : CallFix p m c cc nL s0 args WX RX) (hK : va_K D vwCl [(cA, .long)] s0) (hP : va_P D vwCl (XW cA o q u) H) (d : decode cc pc = .ok (.getfield 9, 3)) (kk : W p l e R s0 m args below meth c H locs 0 0 Q (F0 m (pc + 3) ls (.ref q :: rest))) : W p l e R s0 m args below meth c H locs 0 0 Q (F0 m pc ls (.ref o :: rest)) := va_get (D := D) (ci := 0) (v := .ref q) (C := RX) (T := TX) (N := 14) X.1 X.2.1 X.2.2.2.2 inX X.2.2.2.1 hK hP 0 rfl rfl 0 (by decide) (X.2.2.2.2 _ hfX_words) (fun _ h => h) rfl d kk
theorem xg_lowBase (X : CallFix p m c cc nL s0 args WX RX) (hK : va_K D vwCl [(cA, .long)] s0) (hP : va_P D vwCl (XW cA o q u) H) (d : decode cc pc = .ok (.getfield 28, 3)) (kk : W p l e R s0 m args below meth c H locs 0 0 Q (F0 m (pc + 3) ls (.int (X_lowBase u) :: rest))) : W p l e R s0 m args below meth c H locs 0 0 Q (F0 m pc ls (.ref o :: rest)) := va_get (D := D) (ci := 0) (v := .int (X_lowBase u)) (C := RX) (T := TX) (N := 14) X.1 X.2.1 X.2.2.2.2 inX X.2.2.2.1 hK hP 0 rfl rfl 1 (by decide) (X.2.2.2.2 _ hfX_lowBase) (fun _ h => h) rfl d kk
theorem xp_lowBase (X : CallFix p m c cc nL s0 args WX RX) (hK : va_K D vwCl [(cA, .long)] s0) (hD : ∀ u, va_D A (XW cA o q u)) (hI : gI D (XW cA o q) A s0.heap H locs u) {v : Int32} (d : decode cc pc = .ok (.putfield 28, 3)) (kk : ∀ (H : Heap) (locs : List Loc), gI D (XW cA o q) A s0.heap H locs (X_s_lowBase u v) → W p l e R s0 m args below meth c H locs 0 0 Q (F0 m (pc + 3) ls rest)) : W p l e R s0 m args below meth c H locs 0 0 Q (F0 m pc ls (.int v :: .ref o :: rest)) := va_put (D := D) (ci := 0) (v := .int v) (ty := .int) (C := RX) (T := TX) (N := 14) X.1 X.2.1 X.2.2.2.2 inX tyX tyX_ok nmX X.2.2.2.1 hK hI.1 (hD u) hI.2 0 rfl rfl 1 (by decide) (X.2.2.2.2 _ hfX_lowBase) (fun _ h => h) rfl (by decide +kernel) rfl rfl (Nat.le_of_ble_eq_true rfl) d (fun H locs hP _ hS => kk H locs ⟨hP, hS⟩)
theorem xg_lowBound (X : CallFix p m c cc nL s0 args WX RX) (hK : va_K D vwCl [(cA, .long)] s0) (hP : va_P D vwCl (XW cA o q u) H) (d : decode cc pc = .ok (.getfield 32, 3)) (kk : W p l e R s0 m args below meth c H locs 0 0 Q (F0 m (pc + 3) ls (.int (X_lowBound u) :: rest))) : W p l e R s0 m args below meth c H locs 0 0 Q (F0 m pc ls (.ref o :: rest)) := va_get (D := D) (ci := 0) (v := .int (X_lowBound u)) (C := RX) (T := TX) (N := 14) X.1 X.2.1 X.2.2.2.2 inX X.2.2.2.1 hK hP 0 rfl rfl 2 (by decide) (X.2.2.2.2 _ hfX_lowBound) (fun _ h => h) rfl d kk
theorem xp_lowBound (X : CallFix p m c cc nL s0 args WX RX) (hK : va_K D vwCl [(cA, .long)] s0) (hD : ∀ u, va_D A (XW cA o q u)) (hI : gI D (XW cA o q) A s0.heap H locs u) {v : Int32} (d : decode cc pc = .ok (.putfield 32, 3)) (kk : ∀ (H : Heap) (locs : List Loc), gI D (XW cA o q) A s0.heap H locs (X_s_lowBound u v) → W p l e R s0 m args below meth c H locs 0 0 Q (F0 m (pc + 3) ls rest)) : W p l e R s0 m args below meth c H locs 0 0 Q (F0 m pc ls (.int v :: .ref o :: rest)) := va_put (D := D) (ci := 0) (v := .int v) (ty := .int) (C := RX) (T := TX) (N := 14) X.1 X.2.1 X.2.2.2.2 inX tyX tyX_ok nmX X.2.2.2.1 hK hI.1 (hD u) hI.2 0 rfl rfl 2 (by decide) (X.2.2.2.2 _ hfX_lowBound) (fun _ h => h) rfl (by decide +kernel) rfl rfl (Nat.le_of_ble_eq_true rfl) d (fun H locs hP _ hS => kk H locs ⟨hP, hS⟩)
theorem xg_highBase (X : CallFix p m c cc nL s0 args WX RX) (hK : va_K D vwCl [(cA, .long)] s0) (hP : va_P D vwCl (XW cA o q u) H) (d : decode cc pc = .ok (.getfield 35, 3)) (kk : W p l e R s0 m args below meth c H locs 0 0 Q (F0 m (pc + 3) ls (.int (X_highBase u) :: rest))) : W p l e R s0 m args below meth c H locs 0 0 Q (F0 m pc ls (.ref o :: rest)) := va_get (D := D) (ci := 0) (v := .int (X_highBase u)) (C := RX) (T := TX) (N := 14) X.1 X.2.1 X.2.2.2.2 inX X.2.2.2.1 hK hP 0 rfl rfl 3 (by decide) (X.2.2.2.2 _ hfX_highBase) (fun _ h => h) rfl d kk
theorem xp_highBase (X : CallFix p m c cc nL s0 args WX RX) (hK : va_K D vwCl [(cA, .long)] s0) (hD : ∀ u, va_D A (XW cA o q u)) (hI : gI D (XW cA o q) A s0.heap H locs u) {v : Int32} (d : decode cc pc = .ok (.putfield 35, 3)) (kk : ∀ (H : Heap) (locs : List Loc), gI D (XW cA o q) A s0.heap H locs (X_s_highBase u v) → W p l e R s0 m args below meth c H locs 0 0 Q (F0 m (pc + 3) ls rest)) : W p l e R s0 m args below meth c H locs 0 0 Q (F0 m pc ls (.int v :: .ref o :: rest)) := va_put (D := D) (ci := 0) (v := .int v) (ty := .int) (C := RX) (T := TX) (N := 14) X.1 X.2.1 X.2.2.2.2 inX tyX tyX_ok nmX X.2.2.2.1 hK hI.1 (hD u) hI.2 0 rfl rfl 3 (by decide) (X.2.2.2.2 _ hfX_highBase) (fun _ h => h) rfl (by decide +kernel) rfl rfl (Nat.le_of_ble_eq_true rfl) d (fun H locs hP _ hS => kk H locs ⟨hP, hS⟩)
theorem xg_highBound (X : CallFix p m c cc nL s0 args WX RX) (hK : va_K D vwCl [(cA, .long)] s0) (hP : va_P D vwCl (XW cA o q u) H) (d : decode cc pc = .ok (.getfield 38, 3)) (kk : W p l e R s0 m args below meth c H locs 0 0 Q (F0 m (pc + 3) ls (.int (X_highBound u) :: rest))) : W p l e R s0 m args below meth c H locs 0 0 Q (F0 m pc ls (.ref o :: rest)) := va_get (D := D) (ci := 0) (v := .int (X_highBound u)) (C := RX) (T := TX) (N := 14) X.1 X.2.1 X.2.2.2.2 inX X.2.2.2.1 hK hP 0 rfl rfl 4 (by decide) (X.2.2.2.2 _ hfX_highBound) (fun _ h => h) rfl d kk
theorem xp_highBound (X : CallFix p m c cc nL s0 args WX RX) (hK : va_K D vwCl [(cA, .long)] s0) (hD : ∀ u, va_D A (XW cA o q u)) (hI : gI D (XW cA o q) A s0.heap H locs u) {v : Int32} (d : decode cc pc = .ok (.putfield 38, 3)) (kk : ∀ (H : Heap) (locs : List Loc), gI D (XW cA o q) A s0.heap H locs (X_s_highBound u v) → W p l e R s0 m args below meth c H locs 0 0 Q (F0 m (pc + 3) ls rest)) : W p l e R s0 m args below meth c H locs 0 0 Q (F0 m pc ls (.int v :: .ref o :: rest)) := va_put (D := D) (ci := 0) (v := .int v) (ty := .int) (C := RX) (T := TX) (N := 14) X.1 X.2.1 X.2.2.2.2 inX tyX tyX_ok nmX X.2.2.2.1 hK hI.1 (hD u) hI.2 0 rfl rfl 4 (by decide) (X.2.2.2.2 _ hfX_highBound) (fun _ h => h) rfl (by decide +kernel) rfl rfl (Nat.le_of_ble_eq_true rfl) d (fun H locs hP _ hS => kk H locs ⟨hP, hS⟩)
theorem xg_pc (X : CallFix p m c cc nL s0 args WX RX) (hK : va_K D vwCl [(cA, .long)] s0) (hP : va_P D vwCl (XW cA o q u) H) (d : decode cc pc = .ok (.getfield 42, 3)) (kk : W p l e R s0 m args below meth c H locs 0 0 Q (F0 m (pc + 3) ls (.int (X_pc u) :: rest))) : W p l e R s0 m args below meth c H locs 0 0 Q (F0 m pc ls (.ref o :: rest)) := va_get (D := D) (ci := 0) (v := .int (X_pc u)) (C := RX) (T := TX) (N := 14) X.1 X.2.1 X.2.2.2.2 inX X.2.2.2.1 hK hP 0 rfl rfl 5 (by decide) (X.2.2.2.2 _ hfX_pc) (fun _ h => h) rfl d kk
theorem xp_pc (X : CallFix p m c cc nL s0 args WX RX) (hK : va_K D vwCl [(cA, .long)] s0) (hD : ∀ u, va_D A (XW cA o q u)) (hI : gI D (XW cA o q) A s0.heap H locs u) {v : Int32} (d : decode cc pc = .ok (.putfield 42, 3)) (kk : ∀ (H : Heap) (locs : List Loc), gI D (XW cA o q) A s0.heap H locs (X_s_pc u v) → W p l e R s0 m args below meth c H locs 0 0 Q (F0 m (pc + 3) ls rest)) : W p l e R s0 m args below meth c H locs 0 0 Q (F0 m pc ls (.int v :: .ref o :: rest)) := va_put (D := D) (ci := 0) (v := .int v) (ty := .int) (C := RX) (T := TX) (N := 14) X.1 X.2.1 X.2.2.2.2 inX tyX tyX_ok nmX X.2.2.2.1 hK hI.1 (hD u) hI.2 0 rfl rfl 5 (by decide) (X.2.2.2.2 _ hfX_pc) (fun _ h => h) rfl (by decide +kernel) rfl rfl (Nat.le_of_ble_eq_true rfl) d (fun H locs hP _ hS => kk H locs ⟨hP, hS⟩)
theorem xg_user (X : CallFix p m c cc nL s0 args WX RX) (hK : va_K D vwCl [(cA, .long)] s0) (hP : va_P D vwCl (XW cA o q u) H) (d : decode cc pc = .ok (.getfield 45, 3)) (kk : W p l e R s0 m args below meth c H locs 0 0 Q (F0 m (pc + 3) ls (.int (X_user u) :: rest))) : W p l e R s0 m args below meth c H locs 0 0 Q (F0 m pc ls (.ref o :: rest)) := va_get (D := D) (ci := 0) (v := .int (X_user u)) (C := RX) (T := TX) (N := 14) X.1 X.2.1 X.2.2.2.2 inX X.2.2.2.1 hK hP 0 rfl rfl 6 (by decide) (X.2.2.2.2 _ hfX_user) (fun _ h => h) rfl d kk
theorem xp_user (X : CallFix p m c cc nL s0 args WX RX) (hK : va_K D vwCl [(cA, .long)] s0) (hD : ∀ u, va_D A (XW cA o q u)) (hI : gI D (XW cA o q) A s0.heap H locs u) {v : Int32} (hz : v = 0 ∨ v = 1) (d : decode cc pc = .ok (.putfield 45, 3)) (kk : ∀ (H : Heap) (locs : List Loc), gI D (XW cA o q) A s0.heap H locs (X_s_user u v) → W p l e R s0 m args below meth c H locs 0 0 Q (F0 m (pc + 3) ls rest)) : W p l e R s0 m args below meth c H locs 0 0 Q (F0 m pc ls (.int v :: .ref o :: rest)) := va_put (D := D) (ci := 0) (v := .int v) (ty := .boolean) (C := RX) (T := TX) (N := 14) X.1 X.2.1 X.2.2.2.2 inX tyX tyX_ok nmX X.2.2.2.1 hK hI.1 (hD u) hI.2 0 rfl rfl 6 (by decide) (X.2.2.2.2 _ hfX_user) (fun _ h => h) rfl (by decide +kernel) (nar_z hz) (fit_z hz) (Nat.le_of_ble_eq_true rfl) d (fun H locs hP _ hS => kk H locs ⟨hP, hS⟩)
theorem xg_overflow (X : CallFix p m c cc nL s0 args WX RX) (hK : va_K D vwCl [(cA, .long)] s0) (hP : va_P D vwCl (XW cA o q u) H) (d : decode cc pc = .ok (.getfield 52, 3)) (kk : W p l e R s0 m args below meth c H locs 0 0 Q (F0 m (pc + 3) ls (.int (X_overflow u) :: rest))) : W p l e R s0 m args below meth c H locs 0 0 Q (F0 m pc ls (.ref o :: rest)) := va_get (D := D) (ci := 0) (v := .int (X_overflow u)) (C := RX) (T := TX) (N := 14) X.1 X.2.1 X.2.2.2.2 inX X.2.2.2.1 hK hP 0 rfl rfl 7 (by decide) (X.2.2.2.2 _ hfX_overflow) (fun _ h => h) rfl d kk
theorem xp_overflow (X : CallFix p m c cc nL s0 args WX RX) (hK : va_K D vwCl [(cA, .long)] s0) (hD : ∀ u, va_D A (XW cA o q u)) (hI : gI D (XW cA o q) A s0.heap H locs u) {v : Int32} (hz : v = 0 ∨ v = 1) (d : decode cc pc = .ok (.putfield 52, 3)) (kk : ∀ (H : Heap) (locs : List Loc), gI D (XW cA o q) A s0.heap H locs (X_s_overflow u v) → W p l e R s0 m args below meth c H locs 0 0 Q (F0 m (pc + 3) ls rest)) : W p l e R s0 m args below meth c H locs 0 0 Q (F0 m pc ls (.int v :: .ref o :: rest)) := va_put (D := D) (ci := 0) (v := .int v) (ty := .boolean) (C := RX) (T := TX) (N := 14) X.1 X.2.1 X.2.2.2.2 inX tyX tyX_ok nmX X.2.2.2.1 hK hI.1 (hD u) hI.2 0 rfl rfl 7 (by decide) (X.2.2.2.2 _ hfX_overflow) (fun _ h => h) rfl (by decide +kernel) (nar_z hz) (fit_z hz) (Nat.le_of_ble_eq_true rfl) d (fun H locs hP _ hS => kk H locs ⟨hP, hS⟩)
theorem xg_stopped (X : CallFix p m c cc nL s0 args WX RX) (hK : va_K D vwCl [(cA, .long)] s0) (hP : va_P D vwCl (XW cA o q u) H) (d : decode cc pc = .ok (.getfield 49, 3)) (kk : W p l e R s0 m args below meth c H locs 0 0 Q (F0 m (pc + 3) ls (.int (X_stopped u) :: rest))) : W p l e R s0 m args below meth c H locs 0 0 Q (F0 m pc ls (.ref o :: rest)) := va_get (D := D) (ci := 0) (v := .int (X_stopped u)) (C := RX) (T := TX) (N := 14) X.1 X.2.1 X.2.2.2.2 inX X.2.2.2.1 hK hP 0 rfl rfl 8 (by decide) (X.2.2.2.2 _ hfX_stopped) (fun _ h => h) rfl d kk
theorem xp_stopped (X : CallFix p m c cc nL s0 args WX RX) (hK : va_K D vwCl [(cA, .long)] s0) (hD : ∀ u, va_D A (XW cA o q u)) (hI : gI D (XW cA o q) A s0.heap H locs u) {v : Int32} (hz : v = 0 ∨ v = 1) (d : decode cc pc = .ok (.putfield 49, 3)) (kk : ∀ (H : Heap) (locs : List Loc), gI D (XW cA o q) A s0.heap H locs (X_s_stopped u v) → W p l e R s0 m args below meth c H locs 0 0 Q (F0 m (pc + 3) ls rest)) : W p l e R s0 m args below meth c H locs 0 0 Q (F0 m pc ls (.int v :: .ref o :: rest)) := va_put (D := D) (ci := 0) (v := .int v) (ty := .boolean) (C := RX) (T := TX) (N := 14) X.1 X.2.1 X.2.2.2.2 inX tyX tyX_ok nmX X.2.2.2.1 hK hI.1 (hD u) hI.2 0 rfl rfl 8 (by decide) (X.2.2.2.2 _ hfX_stopped) (fun _ h => h) rfl (by decide +kernel) (nar_z hz) (fit_z hz) (Nat.le_of_ble_eq_true rfl) d (fun H locs hP _ hS => kk H locs ⟨hP, hS⟩)
theorem xg_steps (X : CallFix p m c cc nL s0 args WX RX) (hK : va_K D vwCl [(cA, .long)] s0) (hP : va_P D vwCl (XW cA o q u) H) (d : decode cc pc = .ok (.getfield 58, 3)) (kk : W p l e R s0 m args below meth c H locs 0 0 Q (F0 m (pc + 3) ls (.int (X_steps u) :: rest))) : W p l e R s0 m args below meth c H locs 0 0 Q (F0 m pc ls (.ref o :: rest)) := va_get (D := D) (ci := 0) (v := .int (X_steps u)) (C := RX) (T := TX) (N := 14) X.1 X.2.1 X.2.2.2.2 inX X.2.2.2.1 hK hP 0 rfl rfl 9 (by decide) (X.2.2.2.2 _ hfX_steps) (fun _ h => h) rfl d kk
theorem xp_steps (X : CallFix p m c cc nL s0 args WX RX) (hK : va_K D vwCl [(cA, .long)] s0) (hD : ∀ u, va_D A (XW cA o q u)) (hI : gI D (XW cA o q) A s0.heap H locs u) {v : Int32} (d : decode cc pc = .ok (.putfield 58, 3)) (kk : ∀ (H : Heap) (locs : List Loc), gI D (XW cA o q) A s0.heap H locs (X_s_steps u v) → W p l e R s0 m args below meth c H locs 0 0 Q (F0 m (pc + 3) ls rest)) : W p l e R s0 m args below meth c H locs 0 0 Q (F0 m pc ls (.int v :: .ref o :: rest)) := va_put (D := D) (ci := 0) (v := .int v) (ty := .int) (C := RX) (T := TX) (N := 14) X.1 X.2.1 X.2.2.2.2 inX tyX tyX_ok nmX X.2.2.2.1 hK hI.1 (hD u) hI.2 0 rfl rfl 9 (by decide) (X.2.2.2.2 _ hfX_steps) (fun _ h => h) rfl (by decide +kernel) rfl rfl (Nat.le_of_ble_eq_true rfl) d (fun H locs hP _ hS => kk H locs ⟨hP, hS⟩)
theorem xg_traps (X : CallFix p m c cc nL s0 args WX RX) (hK : va_K D vwCl [(cA, .long)] s0) (hP : va_P D vwCl (XW cA o q u) H) (d : decode cc pc = .ok (.getfield 61, 3)) (kk : W p l e R s0 m args below meth c H locs 0 0 Q (F0 m (pc + 3) ls (.int (X_traps u) :: rest))) : W p l e R s0 m args below meth c H locs 0 0 Q (F0 m pc ls (.ref o :: rest)) := va_get (D := D) (ci := 0) (v := .int (X_traps u)) (C := RX) (T := TX) (N := 14) X.1 X.2.1 X.2.2.2.2 inX X.2.2.2.1 hK hP 0 rfl rfl 10 (by decide) (X.2.2.2.2 _ hfX_traps) (fun _ h => h) rfl d kk
theorem xp_traps (X : CallFix p m c cc nL s0 args WX RX) (hK : va_K D vwCl [(cA, .long)] s0) (hD : ∀ u, va_D A (XW cA o q u)) (hI : gI D (XW cA o q) A s0.heap H locs u) {v : Int32} (d : decode cc pc = .ok (.putfield 61, 3)) (kk : ∀ (H : Heap) (locs : List Loc), gI D (XW cA o q) A s0.heap H locs (X_s_traps u v) → W p l e R s0 m args below meth c H locs 0 0 Q (F0 m (pc + 3) ls rest)) : W p l e R s0 m args below meth c H locs 0 0 Q (F0 m pc ls (.int v :: .ref o :: rest)) := va_put (D := D) (ci := 0) (v := .int v) (ty := .int) (C := RX) (T := TX) (N := 14) X.1 X.2.1 X.2.2.2.2 inX tyX tyX_ok nmX X.2.2.2.1 hK hI.1 (hD u) hI.2 0 rfl rfl 10 (by decide) (X.2.2.2.2 _ hfX_traps) (fun _ h => h) rfl (by decide +kernel) rfl rfl (Nat.le_of_ble_eq_true rfl) d (fun H locs hP _ hS => kk H locs ⟨hP, hS⟩)
theorem xg_latestTrap (X : CallFix p m c cc nL s0 args WX RX) (hK : va_K D vwCl [(cA, .long)] s0) (hP : va_P D vwCl (XW cA o q u) H) (d : decode cc pc = .ok (.getfield 64, 3)) (kk : W p l e R s0 m args below meth c H locs 0 0 Q (F0 m (pc + 3) ls (.int (X_latestTrap u) :: rest))) : W p l e R s0 m args below meth c H locs 0 0 Q (F0 m pc ls (.ref o :: rest)) := va_get (D := D) (ci := 0) (v := .int (X_latestTrap u)) (C := RX) (T := TX) (N := 14) X.1 X.2.1 X.2.2.2.2 inX X.2.2.2.1 hK hP 0 rfl rfl 11 (by decide) (X.2.2.2.2 _ hfX_latestTrap) (fun _ h => h) rfl d kk
theorem xp_latestTrap (X : CallFix p m c cc nL s0 args WX RX) (hK : va_K D vwCl [(cA, .long)] s0) (hD : ∀ u, va_D A (XW cA o q u)) (hI : gI D (XW cA o q) A s0.heap H locs u) {v : Int32} (d : decode cc pc = .ok (.putfield 64, 3)) (kk : ∀ (H : Heap) (locs : List Loc), gI D (XW cA o q) A s0.heap H locs (X_s_latestTrap u v) → W p l e R s0 m args below meth c H locs 0 0 Q (F0 m (pc + 3) ls rest)) : W p l e R s0 m args below meth c H locs 0 0 Q (F0 m pc ls (.int v :: .ref o :: rest)) := va_put (D := D) (ci := 0) (v := .int v) (ty := .int) (C := RX) (T := TX) (N := 14) X.1 X.2.1 X.2.2.2.2 inX tyX tyX_ok nmX X.2.2.2.1 hK hI.1 (hD u) hI.2 0 rfl rfl 11 (by decide) (X.2.2.2.2 _ hfX_latestTrap) (fun _ h => h) rfl (by decide +kernel) rfl rfl (Nat.le_of_ble_eq_true rfl) d (fun H locs hP _ hS => kk H locs ⟨hP, hS⟩)
theorem xg_trap (X : CallFix p m c cc nL s0 args WX RX) (hK : va_K D vwCl [(cA, .long)] s0) (hP : va_P D vwCl (XW cA o q u) H) (d : decode cc pc = .ok (.getfield 67, 3)) (kk : W p l e R s0 m args below meth c H locs 0 0 Q (F0 m (pc + 3) ls (.int (X_trap u) :: rest))) : W p l e R s0 m args below meth c H locs 0 0 Q (F0 m pc ls (.ref o :: rest)) := va_get (D := D) (ci := 0) (v := .int (X_trap u)) (C := RX) (T := TX) (N := 14) X.1 X.2.1 X.2.2.2.2 inX X.2.2.2.1 hK hP 0 rfl rfl 12 (by decide) (X.2.2.2.2 _ hfX_trap) (fun _ h => h) rfl d kk
theorem xp_trap (X : CallFix p m c cc nL s0 args WX RX) (hK : va_K D vwCl [(cA, .long)] s0) (hD : ∀ u, va_D A (XW cA o q u)) (hI : gI D (XW cA o q) A s0.heap H locs u) {v : Int32} (d : decode cc pc = .ok (.putfield 67, 3)) (kk : ∀ (H : Heap) (locs : List Loc), gI D (XW cA o q) A s0.heap H locs (X_s_trap u v) → W p l e R s0 m args below meth c H locs 0 0 Q (F0 m (pc + 3) ls rest)) : W p l e R s0 m args below meth c H locs 0 0 Q (F0 m pc ls (.int v :: .ref o :: rest)) := va_put (D := D) (ci := 0) (v := .int v) (ty := .int) (C := RX) (T := TX) (N := 14) X.1 X.2.1 X.2.2.2.2 inX tyX tyX_ok nmX X.2.2.2.1 hK hI.1 (hD u) hI.2 0 rfl rfl 12 (by decide) (X.2.2.2.2 _ hfX_trap) (fun _ h => h) rfl (by decide +kernel) rfl rfl (Nat.le_of_ble_eq_true rfl) d (fun H locs hP _ hS => kk H locs ⟨hP, hS⟩)
theorem xg_taken (X : CallFix p m c cc nL s0 args WX RX) (hK : va_K D vwCl [(cA, .long)] s0) (hP : va_P D vwCl (XW cA o q u) H) (d : decode cc pc = .ok (.getfield 70, 3)) (kk : W p l e R s0 m args below meth c H locs 0 0 Q (F0 m (pc + 3) ls (.int (X_taken u) :: rest))) : W p l e R s0 m args below meth c H locs 0 0 Q (F0 m pc ls (.ref o :: rest)) := va_get (D := D) (ci := 0) (v := .int (X_taken u)) (C := RX) (T := TX) (N := 14) X.1 X.2.1 X.2.2.2.2 inX X.2.2.2.1 hK hP 0 rfl rfl 13 (by decide) (X.2.2.2.2 _ hfX_taken) (fun _ h => h) rfl d kk
theorem xp_taken (X : CallFix p m c cc nL s0 args WX RX) (hK : va_K D vwCl [(cA, .long)] s0) (hD : ∀ u, va_D A (XW cA o q u)) (hI : gI D (XW cA o q) A s0.heap H locs u) {v : Int32} (d : decode cc pc = .ok (.putfield 70, 3)) (kk : ∀ (H : Heap) (locs : List Loc), gI D (XW cA o q) A s0.heap H locs (X_s_taken u v) → W p l e R s0 m args below meth c H locs 0 0 Q (F0 m (pc + 3) ls rest)) : W p l e R s0 m args below meth c H locs 0 0 Q (F0 m pc ls (.int v :: .ref o :: rest)) := va_put (D := D) (ci := 0) (v := .int v) (ty := .int) (C := RX) (T := TX) (N := 14) X.1 X.2.1 X.2.2.2.2 inX tyX tyX_ok nmX X.2.2.2.1 hK hI.1 (hD u) hI.2 0 rfl rfl 13 (by decide) (X.2.2.2.2 _ hfX_taken) (fun _ h => h) rfl (by decide +kernel) rfl rfl (Nat.le_of_ble_eq_true rfl) d (fun H locs hP _ hS => kk H locs ⟨hP, hS⟩)
theorem xl_words (X : CallFix p m c cc nL s0 args WX RX) (hK : va_K D vwCl [(cA, .long)] s0) (hP : va_P D vwCl (XW cA o q u) H) {i : Int32} (hin : ¬ (i < 0 ∨ 1024 ≤ i.toNatClampNeg)) (d : decode cc pc = .ok (.laload, 1)) (kk : W p l e R s0 m args below meth c H locs 0 0 Q (F0 m (pc + 1) ls (.long (X_words u i.toNatClampNeg) :: rest))) : W p l e R s0 m args below meth c H locs 0 0 Q (F0 m pc ls (.int i :: .ref q :: rest)) := va_lald X.1 X.2.1 hK hP 1 0 rfl rfl hin d kk
theorem xs_words (X : CallFix p m c cc nL s0 args WX RX) (hK : va_K D vwCl [(cA, .long)] s0) (hD : ∀ u, va_D A (XW cA o q u)) (hI : gI D (XW cA o q) A s0.heap H locs u) {i : Int32} {v : Int64} (hin : ¬ (i < 0 ∨ 1024 ≤ i.toNatClampNeg)) (d : decode cc pc = .ok (.lastore, 1)) (kk : ∀ (H : Heap) (locs : List Loc), gI D (XW cA o q) A s0.heap H locs (X_s_words u (vp_updL (X_words u) i.toNatClampNeg v)) → W p l e R s0 m args below meth c H locs 0 0 Q (F0 m (pc + 1) ls rest)) : W p l e R s0 m args below meth c H locs 0 0 Q (F0 m pc ls (.long v :: .int i :: .ref q :: rest)) := va_last X.1 X.2.1 hK hI.1 (hD u) hI.2 1 0 rfl rfl hin d (fun H locs hP _ hS => kk H locs ⟨hP, hS⟩)
end StX
theorem cwX_X_isPlace {R : Room} {s0 : State} {args : Array Value} {rm : Room} (hts : ∀ w ∈ WX, w.before args s0 = true) (hR : rm.frames + 1 ≤ R.frames ∧ 8 + (1 + 11) + rm.locals ≤ R.locals) (h1 : rm.cells = 0 := by rfl) (h2 : rm.slots = 0 := by rfl) : CallB R s0 args RX 13 yX_isPlace cX_isPlace 1 (some .boolean) wX_isPlace rm 0 0 1 ∧ (Cond.static yX_isPlace).before args s0 = true := ⟨callB_of 1 hts (good_cons goodX hoX_isPlace) rfl h1 h2 (hts _ hiX) (hts _ hmX_13) ⟨by decide +kernel, by decide +kernel, by decide +kernel⟩ hR, hts _ hsX_isPlace⟩
theorem cwX_X_signed {R : Room} {s0 : State} {args : Array Value} {rm : Room} (hts : ∀ w ∈ WX, w.before args s0 = true) (hR : rm.frames + 1 ≤ R.frames ∧ 8 + (2 + 11) + rm.locals ≤ R.locals) (h1 : rm.cells = 0 := by rfl) (h2 : rm.slots = 0 := by rfl) : CallB R s0 args RX 21 yX_signed cX_signed 2 (some .long) wX_signed rm 0 0 1 ∧ (Cond.static yX_signed).before args s0 = true := ⟨callB_of 1 hts (good_cons goodX hoX_signed) rfl h1 h2 (hts _ hiX) (hts _ hmX_21) ⟨by decide +kernel, by decide +kernel, by decide +kernel⟩ hR, hts _ hsX_signed⟩
theorem cwX_X_isExtent {R : Room} {s0 : State} {args : Array Value} {rm : Room} (hts : ∀ w ∈ WX, w.before args s0 = true) (hR : rm.frames + 1 ≤ R.frames ∧ 8 + (1 + 11) + rm.locals ≤ R.locals) (h1 : rm.cells = 0 := by rfl) (h2 : rm.slots = 0 := by rfl) : CallB R s0 args RX 25 yX_isExtent cX_isExtent 1 (some .boolean) wX_isExtent rm 0 0 1 ∧ (Cond.static yX_isExtent).before args s0 = true := ⟨callB_of 1 hts (good_cons goodX hoX_isExtent) rfl h1 h2 (hts _ hiX) (hts _ hmX_25) ⟨by decide +kernel, by decide +kernel, by decide +kernel⟩ hR, hts _ hsX_isExtent⟩
theorem cwX_X_step {R : Room} {s0 : State} {args : Array Value} {rm : Room} (hts : ∀ w ∈ WX, w.before args s0 = true) (hR : rm.frames + 1 ≤ R.frames ∧ 8 + (6 + 11) + rm.locals ≤ R.locals) (h1 : rm.cells = 0 := by rfl) (h2 : rm.slots = 0 := by rfl) : CallW R s0 args RX RX 55 yX_step cX_step 6 none wX_step rm 0 0 0 := ⟨callB_of 0 hts (good_cons goodX hoX_step) rfl h1 h2 (hts _ hiX) (hts _ hmX_55) ⟨by decide +kernel, by decide +kernel, by decide +kernel⟩ hR, hts _ hnX_step, hts _ hvX_step⟩
theorem cwX_X_read {R : Room} {s0 : State} {args : Array Value} {rm : Room} (hts : ∀ w ∈ WX, w.before args s0 = true) (hR : rm.frames + 1 ≤ R.frames ∧ 8 + (3 + 11) + rm.locals ≤ R.locals) (h1 : rm.cells = 0 := by rfl) (h2 : rm.slots = 0 := by rfl) : CallW R s0 args RX RX 73 yX_read cX_read 3 (some .long) wX_read rm 0 0 1 := ⟨callB_of 1 hts (good_cons goodX hoX_read) rfl h1 h2 (hts _ hiX) (hts _ hmX_73) ⟨by decide +kernel, by decide +kernel, by decide +kernel⟩ hR, hts _ hnX_read, hts _ hvX_read⟩
theorem cwX_X_wrapped {R : Room} {s0 : State} {args : Array Value} {rm : Room} (hts : ∀ w ∈ WX, w.before args s0 = true) (hR : rm.frames + 1 ≤ R.frames ∧ 8 + (1 + 11) + rm.locals ≤ R.locals) (h1 : rm.cells = 0 := by rfl) (h2 : rm.slots = 0 := by rfl) : CallB R s0 args RX 77 yX_wrapped cX_wrapped 1 (some .int) wX_wrapped rm 0 0 1 ∧ (Cond.static yX_wrapped).before args s0 = true := ⟨callB_of 1 hts (good_cons goodX hoX_wrapped) rfl h1 h2 (hts _ hiX) (hts _ hmX_77) ⟨by decide +kernel, by decide +kernel, by decide +kernel⟩ hR, hts _ hsX_wrapped⟩
theorem cwX_X_effective {R : Room} {s0 : State} {args : Array Value} {rm : Room} (hts : ∀ w ∈ WX, w.before args s0 = true) (hR : rm.frames + 1 ≤ R.frames ∧ 8 + (7 + 11) + rm.locals ≤ R.locals) (h1 : rm.cells = 0 := by rfl) (h2 : rm.slots = 0 := by rfl) : CallW R s0 args RX RX 81 yX_effective cX_effective 7 (some .int) wX_effective rm 0 0 1 := ⟨callB_of 1 hts (good_cons goodX hoX_effective) rfl h1 h2 (hts _ hiX) (hts _ hmX_81) ⟨by decide +kernel, by decide +kernel, by decide +kernel⟩ hR, hts _ hnX_effective, hts _ hvX_effective⟩
theorem cwX_X_operation {R : Room} {s0 : State} {args : Array Value} {rm : Room} (hts : ∀ w ∈ WX, w.before args s0 = true) (hR : rm.frames + 1 ≤ R.frames ∧ 8 + (2 + 11) + rm.locals ≤ R.locals) (h1 : rm.cells = 0 := by rfl) (h2 : rm.slots = 0 := by rfl) : CallB R s0 args RX 85 yX_operation cX_operation 2 (some .int) wX_operation rm 0 0 1 ∧ (Cond.static yX_operation).before args s0 = true := ⟨callB_of 1 hts (good_cons goodX hoX_operation) rfl h1 h2 (hts _ hiX) (hts _ hmX_85) ⟨by decide +kernel, by decide +kernel, by decide +kernel⟩ hR, hts _ hsX_operation⟩
theorem cwX_X_take {R : Room} {s0 : State} {args : Array Value} {rm : Room} (hts : ∀ w ∈ WX, w.before args s0 = true) (hR : rm.frames + 1 ≤ R.frames ∧ 8 + (2 + 11) + rm.locals ≤ R.locals) (h1 : rm.cells = 0 := by rfl) (h2 : rm.slots = 0 := by rfl) : CallW R s0 args RX RX 88 yX_take cX_take 2 (some .long) wX_take rm 0 0 1 := ⟨callB_of 1 hts (good_cons goodX hoX_take) rfl h1 h2 (hts _ hiX) (hts _ hmX_88) ⟨by decide +kernel, by decide +kernel, by decide +kernel⟩ hR, hts _ hnX_take, hts _ hvX_take⟩
theorem cwX_X_accumulator {R : Room} {s0 : State} {args : Array Value} {rm : Room} (hts : ∀ w ∈ WX, w.before args s0 = true) (hR : rm.frames + 1 ≤ R.frames ∧ 8 + (2 + 11) + rm.locals ≤ R.locals) (h1 : rm.cells = 0 := by rfl) (h2 : rm.slots = 0 := by rfl) : CallB R s0 args RX 91 yX_accumulator cX_accumulator 2 (some .int) wX_accumulator rm 0 0 1 ∧ (Cond.static yX_accumulator).before args s0 = true := ⟨callB_of 1 hts (good_cons goodX hoX_accumulator) rfl h1 h2 (hts _ hiX) (hts _ hmX_91) ⟨by decide +kernel, by decide +kernel, by decide +kernel⟩ hR, hts _ hsX_accumulator⟩
theorem cwX_X_carryOut {R : Room} {s0 : State} {args : Array Value} {rm : Room} (hts : ∀ w ∈ WX, w.before args s0 = true) (hR : rm.frames + 1 ≤ R.frames ∧ 8 + (4 + 11) + rm.locals ≤ R.locals) (h1 : rm.cells = 0 := by rfl) (h2 : rm.slots = 0 := by rfl) : CallW R s0 args RX RX 94 yX_carryOut cX_carryOut 4 none wX_carryOut rm 0 0 3 := ⟨callB_of 3 hts (good_cons goodX hoX_carryOut) rfl h1 h2 (hts _ hiX) (hts _ hmX_94) ⟨by decide +kernel, by decide +kernel, by decide +kernel⟩ hR, hts _ hnX_carryOut, hts _ hvX_carryOut⟩
theorem cwX_X_enterTrap {R : Room} {s0 : State} {args : Array Value} {rm : Room} (hts : ∀ w ∈ WX, w.before args s0 = true) (hR : rm.frames + 1 ≤ R.frames ∧ 8 + (2 + 11) + rm.locals ≤ R.locals) (h1 : rm.cells = 0 := by rfl) (h2 : rm.slots = 0 := by rfl) : CallW R s0 args RX RX 98 yX_enterTrap cX_enterTrap 2 none wX_enterTrap rm 0 0 1 := ⟨callB_of 1 hts (good_cons goodX hoX_enterTrap) rfl h1 h2 (hts _ hiX) (hts _ hmX_98) ⟨by decide +kernel, by decide +kernel, by decide +kernel⟩ hR, hts _ hnX_enterTrap, hts _ hvX_enterTrap⟩
theorem cwX_X_flags {R : Room} {s0 : State} {args : Array Value} {rm : Room} (hts : ∀ w ∈ WX, w.before args s0 = true) (hR : rm.frames + 1 ≤ R.frames ∧ 8 + (1 + 11) + rm.locals ≤ R.locals) (h1 : rm.cells = 0 := by rfl) (h2 : rm.slots = 0 := by rfl) : CallW R s0 args RX RX 102 yX_flags cX_flags 1 (some .int) wX_flags rm 0 0 0 := ⟨callB_of 0 hts (good_cons goodX hoX_flags) rfl h1 h2 (hts _ hiX) (hts _ hmX_102) ⟨by decide +kernel, by decide +kernel, by decide +kernel⟩ hR, hts _ hnX_flags, hts _ hvX_flags⟩
theorem cwX_X_joined {R : Room} {s0 : State} {args : Array Value} {rm : Room} (hts : ∀ w ∈ WX, w.before args s0 = true) (hR : rm.frames + 1 ≤ R.frames ∧ 8 + (2 + 11) + rm.locals ≤ R.locals) (h1 : rm.cells = 0 := by rfl) (h2 : rm.slots = 0 := by rfl) : CallB R s0 args RX 106 yX_joined cX_joined 2 (some .long) wX_joined rm 0 0 2 ∧ (Cond.static yX_joined).before args s0 = true := ⟨callB_of 2 hts (good_cons goodX hoX_joined) rfl h1 h2 (hts _ hiX) (hts _ hmX_106) ⟨by decide +kernel, by decide +kernel, by decide +kernel⟩ hR, hts _ hsX_joined⟩
theorem cwX_X_bytes {R : Room} {s0 : State} {args : Array Value} {rm : Room} (hts : ∀ w ∈ WX, w.before args s0 = true) (hR : rm.frames + 1 ≤ R.frames ∧ 8 + (7 + 11) + rm.locals ≤ R.locals) (h1 : rm.cells = 0 := by rfl) (h2 : rm.slots = 0 := by rfl) : CallW R s0 args RX RX 111 yX_bytes cX_bytes 7 none wX_bytes rm 0 0 3 := ⟨callB_of 3 hts (good_cons goodX hoX_bytes) rfl h1 h2 (hts _ hiX) (hts _ hmX_111) ⟨by decide +kernel, by decide +kernel, by decide +kernel⟩ hR, hts _ hnX_bytes, hts _ hvX_bytes⟩
theorem cwX_X_move {R : Room} {s0 : State} {args : Array Value} {rm : Room} (hts : ∀ w ∈ WX, w.before args s0 = true) (hR : rm.frames + 1 ≤ R.frames ∧ 8 + (7 + 11) + rm.locals ≤ R.locals) (h1 : rm.cells = 0 := by rfl) (h2 : rm.slots = 0 := by rfl) : CallW R s0 args RX RX 114 yX_move cX_move 7 none wX_move rm 0 0 3 := ⟨callB_of 3 hts (good_cons goodX hoX_move) rfl h1 h2 (hts _ hiX) (hts _ hmX_114) ⟨by decide +kernel, by decide +kernel, by decide +kernel⟩ hR, hts _ hnX_move, hts _ hvX_move⟩
theorem cwX_X_multiply {R : Room} {s0 : State} {args : Array Value} {rm : Room} (hts : ∀ w ∈ WX, w.before args s0 = true) (hR : rm.frames + 1 ≤ R.frames ∧ 8 + (9 + 11) + rm.locals ≤ R.locals) (h1 : rm.cells = 0 := by rfl) (h2 : rm.slots = 0 := by rfl) : CallW R s0 args RX RX 117 yX_multiply cX_multiply 9 none wX_multiply rm 0 0 3 := ⟨callB_of 3 hts (good_cons goodX hoX_multiply) rfl h1 h2 (hts _ hiX) (hts _ hmX_117) ⟨by decide +kernel, by decide +kernel, by decide +kernel⟩ hR, hts _ hnX_multiply, hts _ hvX_multiply⟩
theorem cwX_X_divide {R : Room} {s0 : State} {args : Array Value} {rm : Room} (hts : ∀ w ∈ WX, w.before args s0 = true) (hR : rm.frames + 1 ≤ R.frames ∧ 8 + (9 + 11) + rm.locals ≤ R.locals) (h1 : rm.cells = 0 := by rfl) (h2 : rm.slots = 0 := by rfl) : CallW R s0 args RX RX 120 yX_divide cX_divide 9 none wX_divide rm 0 0 3 := ⟨callB_of 3 hts (good_cons goodX hoX_divide) rfl h1 h2 (hts _ hiX) (hts _ hmX_120) ⟨by decide +kernel, by decide +kernel, by decide +kernel⟩ hR, hts _ hnX_divide, hts _ hvX_divide⟩
theorem cwX_X_shift {R : Room} {s0 : State} {args : Array Value} {rm : Room} (hts : ∀ w ∈ WX, w.before args s0 = true) (hR : rm.frames + 1 ≤ R.frames ∧ 8 + (5 + 11) + rm.locals ≤ R.locals) (h1 : rm.cells = 0 := by rfl) (h2 : rm.slots = 0 := by rfl) : CallW R s0 args RX RX 123 yX_shift cX_shift 5 none wX_shift rm 0 0 3 := ⟨callB_of 3 hts (good_cons goodX hoX_shift) rfl h1 h2 (hts _ hiX) (hts _ hmX_123) ⟨by decide +kernel, by decide +kernel, by decide +kernel⟩ hR, hts _ hnX_shift, hts _ hvX_shift⟩
theorem cwX_X_exchangeOrJump {R : Room} {s0 : State} {args : Array Value} {rm : Room} (hts : ∀ w ∈ WX, w.before args s0 = true) (hR : rm.frames + 1 ≤ R.frames ∧ 8 + (4 + 11) + rm.locals ≤ R.locals) (h1 : rm.cells = 0 := by rfl) (h2 : rm.slots = 0 := by rfl) : CallW R s0 args RX RX 126 yX_exchangeOrJump cX_exchangeOrJump 4 none wX_exchangeOrJump rm 0 0 3 := ⟨callB_of 3 hts (good_cons goodX hoX_exchangeOrJump) rfl h1 h2 (hts _ hiX) (hts _ hmX_126) ⟨by decide +kernel, by decide +kernel, by decide +kernel⟩ hR, hts _ hnX_exchangeOrJump, hts _ hvX_exchangeOrJump⟩
theorem cwX_X_stack {R : Room} {s0 : State} {args : Array Value} {rm : Room} (hts : ∀ w ∈ WX, w.before args s0 = true) (hR : rm.frames + 1 ≤ R.frames ∧ 8 + (4 + 11) + rm.locals ≤ R.locals) (h1 : rm.cells = 0 := by rfl) (h2 : rm.slots = 0 := by rfl) : CallW R s0 args RX RX 129 yX_stack cX_stack 4 none wX_stack rm 0 0 3 := ⟨callB_of 3 hts (good_cons goodX hoX_stack) rfl h1 h2 (hts _ hiX) (hts _ hmX_129) ⟨by decide +kernel, by decide +kernel, by decide +kernel⟩ hR, hts _ hnX_stack, hts _ hvX_stack⟩
theorem cwX_X_sum {R : Room} {s0 : State} {args : Array Value} {rm : Room} (hts : ∀ w ∈ WX, w.before args s0 = true) (hR : rm.frames + 1 ≤ R.frames ∧ 8 + (10 + 11) + rm.locals ≤ R.locals) (h1 : rm.cells = 0 := by rfl) (h2 : rm.slots = 0 := by rfl) : CallW R s0 args RX RX 132 yX_sum cX_sum 10 none wX_sum rm 0 0 3 := ⟨callB_of 3 hts (good_cons goodX hoX_sum) rfl h1 h2 (hts _ hiX) (hts _ hmX_132) ⟨by decide +kernel, by decide +kernel, by decide +kernel⟩ hR, hts _ hnX_sum, hts _ hvX_sum⟩
theorem cwX_X_compare {R : Room} {s0 : State} {args : Array Value} {rm : Room} (hts : ∀ w ∈ WX, w.before args s0 = true) (hR : rm.frames + 1 ≤ R.frames ∧ 8 + (7 + 11) + rm.locals ≤ R.locals) (h1 : rm.cells = 0 := by rfl) (h2 : rm.slots = 0 := by rfl) : CallW R s0 args RX RX 135 yX_compare cX_compare 7 none wX_compare rm 0 0 3 := ⟨callB_of 3 hts (good_cons goodX hoX_compare) rfl h1 h2 (hts _ hiX) (hts _ hmX_135) ⟨by decide +kernel, by decide +kernel, by decide +kernel⟩ hR, hts _ hnX_compare, hts _ hvX_compare⟩
theorem cwX_X_logic {R : Room} {s0 : State} {args : Array Value} {rm : Room} (hts : ∀ w ∈ WX, w.before args s0 = true) (hR : rm.frames + 1 ≤ R.frames ∧ 8 + (12 + 11) + rm.locals ≤ R.locals) (h1 : rm.cells = 0 := by rfl) (h2 : rm.slots = 0 := by rfl) : CallW R s0 args RX RX 138 yX_logic cX_logic 12 none wX_logic rm 0 0 3 := ⟨callB_of 3 hts (good_cons goodX hoX_logic) rfl h1 h2 (hts _ hiX) (hts _ hmX_138) ⟨by decide +kernel, by decide +kernel, by decide +kernel⟩ hR, hts _ hnX_logic, hts _ hvX_logic⟩
theorem cwX_X_halves {R : Room} {s0 : State} {args : Array Value} {rm : Room} (hts : ∀ w ∈ WX, w.before args s0 = true) (hR : rm.frames + 1 ≤ R.frames ∧ 8 + (13 + 11) + rm.locals ≤ R.locals) (h1 : rm.cells = 0 := by rfl) (h2 : rm.slots = 0 := by rfl) : CallW R s0 args RX RX 141 yX_halves cX_halves 13 none wX_halves rm 0 0 3 := ⟨callB_of 3 hts (good_cons goodX hoX_halves) rfl h1 h2 (hts _ hiX) (hts _ hmX_141) ⟨by decide +kernel, by decide +kernel, by decide +kernel⟩ hR, hts _ hnX_halves, hts _ hvX_halves⟩
theorem cwX_X_test {R : Room} {s0 : State} {args : Array Value} {rm : Room} (hts : ∀ w ∈ WX, w.before args s0 = true) (hR : rm.frames + 1 ≤ R.frames ∧ 8 + (8 + 11) + rm.locals ≤ R.locals) (h1 : rm.cells = 0 := by rfl) (h2 : rm.slots = 0 := by rfl) : CallW R s0 args RX RX 144 yX_test cX_test 8 none wX_test rm 0 0 3 := ⟨callB_of 3 hts (good_cons goodX hoX_test) rfl h1 h2 (hts _ hiX) (hts _ hmX_144) ⟨by decide +kernel, by decide +kernel, by decide +kernel⟩ hR, hts _ hnX_test, hts _ hvX_test⟩
theorem cwX_X_raise {R : Room} {s0 : State} {args : Array Value} {rm : Room} (hts : ∀ w ∈ WX, w.before args s0 = true) (hR : rm.frames + 1 ≤ R.frames ∧ 8 + (2 + 11) + rm.locals ≤ R.locals) (h1 : rm.cells = 0 := by rfl) (h2 : rm.slots = 0 := by rfl) : CallW R s0 args RX RX 147 yX_raise cX_raise 2 none wX_raise rm 0 0 1 := ⟨callB_of 1 hts (good_cons goodX hoX_raise) rfl h1 h2 (hts _ hiX) (hts _ hmX_147) ⟨by decide +kernel, by decide +kernel, by decide +kernel⟩ hR, hts _ hnX_raise, hts _ hvX_raise⟩
theorem cwX_X_placeOf {R : Room} {s0 : State} {args : Array Value} {rm : Room} (hts : ∀ w ∈ WX, w.before args s0 = true) (hR : rm.frames + 1 ≤ R.frames ∧ 8 + (3 + 11) + rm.locals ≤ R.locals) (h1 : rm.cells = 0 := by rfl) (h2 : rm.slots = 0 := by rfl) : CallW R s0 args RX RX 150 yX_placeOf cX_placeOf 3 (some .int) wX_placeOf rm 0 0 1 := ⟨callB_of 1 hts (good_cons goodX hoX_placeOf) rfl h1 h2 (hts _ hiX) (hts _ hmX_150) ⟨by decide +kernel, by decide +kernel, by decide +kernel⟩ hR, hts _ hnX_placeOf, hts _ hvX_placeOf⟩
theorem cwX_X_setAccumulator {R : Room} {s0 : State} {args : Array Value} {rm : Room} (hts : ∀ w ∈ WX, w.before args s0 = true) (hR : rm.frames + 1 ≤ R.frames ∧ 8 + (4 + 11) + rm.locals ≤ R.locals) (h1 : rm.cells = 0 := by rfl) (h2 : rm.slots = 0 := by rfl) : CallW R s0 args RX RX 153 yX_setAccumulator cX_setAccumulator 4 none wX_setAccumulator rm 0 0 2 := ⟨callB_of 2 hts (good_cons goodX hoX_setAccumulator) rfl h1 h2 (hts _ hiX) (hts _ hmX_153) ⟨by decide +kernel, by decide +kernel, by decide +kernel⟩ hR, hts _ hnX_setAccumulator, hts _ hvX_setAccumulator⟩
theorem cwX_X_indexed {R : Room} {s0 : State} {args : Array Value} {rm : Room} (hts : ∀ w ∈ WX, w.before args s0 = true) (hR : rm.frames + 1 ≤ R.frames ∧ 8 + (5 + 11) + rm.locals ≤ R.locals) (h1 : rm.cells = 0 := by rfl) (h2 : rm.slots = 0 := by rfl) : CallW R s0 args RX RX 157 yX_indexed cX_indexed 5 (some .int) wX_indexed rm 0 0 1 := ⟨callB_of 1 hts (good_cons goodX hoX_indexed) rfl h1 h2 (hts _ hiX) (hts _ hmX_157) ⟨by decide +kernel, by decide +kernel, by decide +kernel⟩ hR, hts _ hnX_indexed, hts _ hvX_indexed⟩
theorem cwX_X_isIndirect {R : Room} {s0 : State} {args : Array Value} {rm : Room} (hts : ∀ w ∈ WX, w.before args s0 = true) (hR : rm.frames + 1 ≤ R.frames ∧ 8 + (2 + 11) + rm.locals ≤ R.locals) (h1 : rm.cells = 0 := by rfl) (h2 : rm.slots = 0 := by rfl) : CallB R s0 args RX 160 yX_isIndirect cX_isIndirect 2 (some .boolean) wX_isIndirect rm 0 0 1 ∧ (Cond.static yX_isIndirect).before args s0 = true := ⟨callB_of 1 hts (good_cons goodX hoX_isIndirect) rfl h1 h2 (hts _ hiX) (hts _ hmX_160) ⟨by decide +kernel, by decide +kernel, by decide +kernel⟩ hR, hts _ hsX_isIndirect⟩
theorem cwX_X_right {R : Room} {s0 : State} {args : Array Value} {rm : Room} (hts : ∀ w ∈ WX, w.before args s0 = true) (hR : rm.frames + 1 ≤ R.frames ∧ 8 + (2 + 11) + rm.locals ≤ R.locals) (h1 : rm.cells = 0 := by rfl) (h2 : rm.slots = 0 := by rfl) : CallB R s0 args RX 164 yX_right cX_right 2 (some .int) wX_right rm 0 0 1 ∧ (Cond.static yX_right).before args s0 = true := ⟨callB_of 1 hts (good_cons goodX hoX_right) rfl h1 h2 (hts _ hiX) (hts _ hmX_164) ⟨by decide +kernel, by decide +kernel, by decide +kernel⟩ hR, hts _ hsX_right⟩
theorem cwX_X_left {R : Room} {s0 : State} {args : Array Value} {rm : Room} (hts : ∀ w ∈ WX, w.before args s0 = true) (hR : rm.frames + 1 ≤ R.frames ∧ 8 + (2 + 11) + rm.locals ≤ R.locals) (h1 : rm.cells = 0 := by rfl) (h2 : rm.slots = 0 := by rfl) : CallB R s0 args RX 167 yX_left cX_left 2 (some .int) wX_left rm 0 0 1 ∧ (Cond.static yX_left).before args s0 = true := ⟨callB_of 1 hts (good_cons goodX hoX_left) rfl h1 h2 (hts _ hiX) (hts _ hmX_167) ⟨by decide +kernel, by decide +kernel, by decide +kernel⟩ hR, hts _ hsX_left⟩
theorem cwX_X_setOverflow {R : Room} {s0 : State} {args : Array Value} {rm : Room} (hts : ∀ w ∈ WX, w.before args s0 = true) (hR : rm.frames + 1 ≤ R.frames ∧ 8 + (1 + 11) + rm.locals ≤ R.locals) (h1 : rm.cells = 0 := by rfl) (h2 : rm.slots = 0 := by rfl) : CallW R s0 args RX RX 170 yX_setOverflow cX_setOverflow 1 none wX_setOverflow rm 0 0 0 := ⟨callB_of 0 hts (good_cons goodX hoX_setOverflow) rfl h1 h2 (hts _ hiX) (hts _ hmX_170) ⟨by decide +kernel, by decide +kernel, by decide +kernel⟩ hR, hts _ hnX_setOverflow, hts _ hvX_setOverflow⟩
theorem cwX_X_source {R : Room} {s0 : State} {args : Array Value} {rm : Room} (hts : ∀ w ∈ WX, w.before args s0 = true) (hR : rm.frames + 1 ≤ R.frames ∧ 8 + (3 + 11) + rm.locals ≤ R.locals) (h1 : rm.cells = 0 := by rfl) (h2 : rm.slots = 0 := by rfl) : CallW R s0 args RX RX 173 yX_source cX_source 3 (some .long) wX_source rm 0 0 2 := ⟨callB_of 2 hts (good_cons goodX hoX_source) rfl h1 h2 (hts _ hiX) (hts _ hmX_173) ⟨by decide +kernel, by decide +kernel, by decide +kernel⟩ hR, hts _ hnX_source, hts _ hvX_source⟩
theorem cwX_X_write {R : Room} {s0 : State} {args : Array Value} {rm : Room} (hts : ∀ w ∈ WX, w.before args s0 = true) (hR : rm.frames + 1 ≤ R.frames ∧ 8 + (5 + 11) + rm.locals ≤ R.locals) (h1 : rm.cells = 0 := by rfl) (h2 : rm.slots = 0 := by rfl) : CallW R s0 args RX RX 176 yX_write cX_write 5 none wX_write rm 0 0 2 := ⟨callB_of 2 hts (good_cons goodX hoX_write) rfl h1 h2 (hts _ hiX) (hts _ hmX_176) ⟨by decide +kernel, by decide +kernel, by decide +kernel⟩ hR, hts _ hnX_write, hts _ hvX_write⟩
theorem cwX_X_setAccumulatorButZero {R : Room} {s0 : State} {args : Array Value} {rm : Room} (hts : ∀ w ∈ WX, w.before args s0 = true) (hR : rm.frames + 1 ≤ R.frames ∧ 8 + (4 + 11) + rm.locals ≤ R.locals) (h1 : rm.cells = 0 := by rfl) (h2 : rm.slots = 0 := by rfl) : CallW R s0 args RX RX 179 yX_setAccumulatorButZero cX_setAccumulatorButZero 4 none wX_setAccumulatorButZero rm 0 0 2 := ⟨callB_of 2 hts (good_cons goodX hoX_setAccumulatorButZero) rfl h1 h2 (hts _ hiX) (hts _ hmX_179) ⟨by decide +kernel, by decide +kernel, by decide +kernel⟩ hR, hts _ hnX_setAccumulatorButZero, hts _ hvX_setAccumulatorButZero⟩
theorem cwX_X_movedSource {R : Room} {s0 : State} {args : Array Value} {rm : Room} (hts : ∀ w ∈ WX, w.before args s0 = true) (hR : rm.frames + 1 ≤ R.frames ∧ 8 + (4 + 11) + rm.locals ≤ R.locals) (h1 : rm.cells = 0 := by rfl) (h2 : rm.slots = 0 := by rfl) : CallW R s0 args RX RX 182 yX_movedSource cX_movedSource 4 (some .long) wX_movedSource rm 0 0 3 := ⟨callB_of 3 hts (good_cons goodX hoX_movedSource) rfl h1 h2 (hts _ hiX) (hts _ hmX_182) ⟨by decide +kernel, by decide +kernel, by decide +kernel⟩ hR, hts _ hnX_movedSource, hts _ hvX_movedSource⟩
theorem cwX_X_changedToMove {R : Room} {s0 : State} {args : Array Value} {rm : Room} (hts : ∀ w ∈ WX, w.before args s0 = true) (hR : rm.frames + 1 ≤ R.frames ∧ 8 + (4 + 11) + rm.locals ≤ R.locals) (h1 : rm.cells = 0 := by rfl) (h2 : rm.slots = 0 := by rfl) : CallW R s0 args RX RX 186 yX_changedToMove cX_changedToMove 4 (some .long) wX_changedToMove rm 0 0 2 := ⟨callB_of 2 hts (good_cons goodX hoX_changedToMove) rfl h1 h2 (hts _ hiX) (hts _ hmX_186) ⟨by decide +kernel, by decide +kernel, by decide +kernel⟩ hR, hts _ hnX_changedToMove, hts _ hvX_changedToMove⟩
theorem cwX_X_putMoved {R : Room} {s0 : State} {args : Array Value} {rm : Room} (hts : ∀ w ∈ WX, w.before args s0 = true) (hR : rm.frames + 1 ≤ R.frames ∧ 8 + (6 + 11) + rm.locals ≤ R.locals) (h1 : rm.cells = 0 := by rfl) (h2 : rm.slots = 0 := by rfl) : CallW R s0 args RX RX 190 yX_putMoved cX_putMoved 6 none wX_putMoved rm 0 0 4 := ⟨callB_of 4 hts (good_cons goodX hoX_putMoved) rfl h1 h2 (hts _ hiX) (hts _ hmX_190) ⟨by decide +kernel, by decide +kernel, by decide +kernel⟩ hR, hts _ hnX_putMoved, hts _ hvX_putMoved⟩
theorem cwX_X_swapped {R : Room} {s0 : State} {args : Array Value} {rm : Room} (hts : ∀ w ∈ WX, w.before args s0 = true) (hR : rm.frames + 1 ≤ R.frames ∧ 8 + (2 + 11) + rm.locals ≤ R.locals) (h1 : rm.cells = 0 := by rfl) (h2 : rm.slots = 0 := by rfl) : CallB R s0 args RX 194 yX_swapped cX_swapped 2 (some .long) wX_swapped rm 0 0 1 ∧ (Cond.static yX_swapped).before args s0 = true := ⟨callB_of 1 hts (good_cons goodX hoX_swapped) rfl h1 h2 (hts _ hiX) (hts _ hmX_194) ⟨by decide +kernel, by decide +kernel, by decide +kernel⟩ hR, hts _ hsX_swapped⟩
theorem cwX_X_fitted {R : Room} {s0 : State} {args : Array Value} {rm : Room} (hts : ∀ w ∈ WX, w.before args s0 = true) (hR : rm.frames + 1 ≤ R.frames ∧ 8 + (5 + 11) + rm.locals ≤ R.locals) (h1 : rm.cells = 0 := by rfl) (h2 : rm.slots = 0 := by rfl) : CallW R s0 args RX RX 197 yX_fitted cX_fitted 5 (some .long) wX_fitted rm 0 0 1 := ⟨callB_of 1 hts (good_cons goodX hoX_fitted) rfl h1 h2 (hts _ hiX) (hts _ hmX_197) ⟨by decide +kernel, by decide +kernel, by decide +kernel⟩ hR, hts _ hnX_fitted, hts _ hvX_fitted⟩
theorem cwX_J_abs {R : Room} {s0 : State} {args : Array Value} {rm : Room} (hts : ∀ w ∈ WX, w.before args s0 = true) (hR : rm.frames + 1 ≤ R.frames ∧ 8 + (2 + 11) + rm.locals ≤ R.locals) (h1 : rm.cells = 0 := by rfl) (h2 : rm.slots = 0 := by rfl) : CallB R s0 args RX 200 yJ_abs cJ_abs 2 (some .long) wJ_abs rm 0 0 1 ∧ (Cond.static yJ_abs).before args s0 = true := ⟨callB_of 1 hts (good_one goodX hoJ_abs) rfl h1 h2 (hts _ hiJ) (hts _ hmX_200) ⟨by decide +kernel, by decide +kernel, by decide +kernel⟩ hR, hts _ hsJ_abs⟩
theorem cwX_X_putResult {R : Room} {s0 : State} {args : Array Value} {rm : Room} (hts : ∀ w ∈ WX, w.before args s0 = true) (hR : rm.frames + 1 ≤ R.frames ∧ 8 + (6 + 11) + rm.locals ≤ R.locals) (h1 : rm.cells = 0 := by rfl) (h2 : rm.slots = 0 := by rfl) : CallW R s0 args RX RX 205 yX_putResult cX_putResult 6 none wX_putResult rm 0 0 4 := ⟨callB_of 4 hts (good_cons goodX hoX_putResult) rfl h1 h2 (hts _ hiX) (hts _ hmX_205) ⟨by decide +kernel, by decide +kernel, by decide +kernel⟩ hR, hts _ hnX_putResult, hts _ hvX_putResult⟩
theorem cwX_X_productFits {R : Room} {s0 : State} {args : Array Value} {rm : Room} (hts : ∀ w ∈ WX, w.before args s0 = true) (hR : rm.frames + 1 ≤ R.frames ∧ 8 + (6 + 11) + rm.locals ≤ R.locals) (h1 : rm.cells = 0 := by rfl) (h2 : rm.slots = 0 := by rfl) : CallB R s0 args RX 208 yX_productFits cX_productFits 6 (some .boolean) wX_productFits rm 0 0 2 ∧ (Cond.static yX_productFits).before args s0 = true := ⟨callB_of 2 hts (good_cons goodX hoX_productFits) rfl h1 h2 (hts _ hiX) (hts _ hmX_208) ⟨by decide +kernel, by decide +kernel, by decide +kernel⟩ hR, hts _ hsX_productFits⟩
theorem cwX_X_otherHalf {R : Room} {s0 : State} {args : Array Value} {rm : Room} (hts : ∀ w ∈ WX, w.before args s0 = true) (hR : rm.frames + 1 ≤ R.frames ∧ 8 + (3 + 11) + rm.locals ≤ R.locals) (h1 : rm.cells = 0 := by rfl) (h2 : rm.slots = 0 := by rfl) : CallB R s0 args RX 220 yX_otherHalf cX_otherHalf 3 (some .int) wX_otherHalf rm 0 0 3 ∧ (Cond.static yX_otherHalf).before args s0 = true := ⟨callB_of 3 hts (good_cons goodX hoX_otherHalf) rfl h1 h2 (hts _ hiX) (hts _ hmX_220) ⟨by decide +kernel, by decide +kernel, by decide +kernel⟩ hR, hts _ hsX_otherHalf⟩
theorem cwX_X_testSkips {R : Room} {s0 : State} {args : Array Value} {rm : Room} (hts : ∀ w ∈ WX, w.before args s0 = true) (hR : rm.frames + 1 ≤ R.frames ∧ 8 + (3 + 11) + rm.locals ≤ R.locals) (h1 : rm.cells = 0 := by rfl) (h2 : rm.slots = 0 := by rfl) : CallB R s0 args RX 224 yX_testSkips cX_testSkips 3 (some .boolean) wX_testSkips rm 0 0 2 ∧ (Cond.static yX_testSkips).before args s0 = true := ⟨callB_of 2 hts (good_cons goodX hoX_testSkips) rfl h1 h2 (hts _ hiX) (hts _ hmX_224) ⟨by decide +kernel, by decide +kernel, by decide +kernel⟩ hR, hts _ hsX_testSkips⟩
theorem cwX_X_skipIf {R : Room} {s0 : State} {args : Array Value} {rm : Room} (hts : ∀ w ∈ WX, w.before args s0 = true) (hR : rm.frames + 1 ≤ R.frames ∧ 8 + (2 + 11) + rm.locals ≤ R.locals) (h1 : rm.cells = 0 := by rfl) (h2 : rm.slots = 0 := by rfl) : CallW R s0 args RX RX 228 yX_skipIf cX_skipIf 2 none wX_skipIf rm 0 0 1 := ⟨callB_of 1 hts (good_cons goodX hoX_skipIf) rfl h1 h2 (hts _ hiX) (hts _ hmX_228) ⟨by decide +kernel, by decide +kernel, by decide +kernel⟩ hR, hts _ hnX_skipIf, hts _ hvX_skipIf⟩
theorem cwX_X_maskedChange {R : Room} {s0 : State} {args : Array Value} {rm : Room} (hts : ∀ w ∈ WX, w.before args s0 = true) (hR : rm.frames + 1 ≤ R.frames ∧ 8 + (5 + 11) + rm.locals ≤ R.locals) (h1 : rm.cells = 0 := by rfl) (h2 : rm.slots = 0 := by rfl) : CallB R s0 args RX 232 yX_maskedChange cX_maskedChange 5 (some .long) wX_maskedChange rm 0 0 3 ∧ (Cond.static yX_maskedChange).before args s0 = true := ⟨callB_of 3 hts (good_cons goodX hoX_maskedChange) rfl h1 h2 (hts _ hiX) (hts _ hmX_232) ⟨by decide +kernel, by decide +kernel, by decide +kernel⟩ hR, hts _ hsX_maskedChange⟩
theorem cwX_X_holds {R : Room} {s0 : State} {args : Array Value} {rm : Room} (hts : ∀ w ∈ WX, w.before args s0 = true) (hR : rm.frames + 1 ≤ R.frames ∧ 8 + (3 + 11) + rm.locals ≤ R.locals) (h1 : rm.cells = 0 := by rfl) (h2 : rm.slots = 0 := by rfl) : CallB R s0 args RX 236 yX_holds cX_holds 3 (some .boolean) wX_holds rm 0 0 2 ∧ (Cond.static yX_holds).before args s0 = true := ⟨callB_of 2 hts (good_cons goodX hoX_holds) rfl h1 h2 (hts _ hiX) (hts _ hmX_236) ⟨by decide +kernel, by decide +kernel, by decide +kernel⟩ hR, hts _ hsX_holds⟩
theorem cwX_X_jumpIf {R : Room} {s0 : State} {args : Array Value} {rm : Room} (hts : ∀ w ∈ WX, w.before args s0 = true) (hR : rm.frames + 1 ≤ R.frames ∧ 8 + (3 + 11) + rm.locals ≤ R.locals) (h1 : rm.cells = 0 := by rfl) (h2 : rm.slots = 0 := by rfl) : CallW R s0 args RX RX 239 yX_jumpIf cX_jumpIf 3 none wX_jumpIf rm 0 0 2 := ⟨callB_of 2 hts (good_cons goodX hoX_jumpIf) rfl h1 h2 (hts _ hiX) (hts _ hmX_239) ⟨by decide +kernel, by decide +kernel, by decide +kernel⟩ hR, hts _ hnX_jumpIf, hts _ hvX_jumpIf⟩
theorem cwX_X_skipOnWord {R : Room} {s0 : State} {args : Array Value} {rm : Room} (hts : ∀ w ∈ WX, w.before args s0 = true) (hR : rm.frames + 1 ≤ R.frames ∧ 8 + (5 + 11) + rm.locals ≤ R.locals) (h1 : rm.cells = 0 := by rfl) (h2 : rm.slots = 0 := by rfl) : CallW R s0 args RX RX 243 yX_skipOnWord cX_skipOnWord 5 none wX_skipOnWord rm 0 0 3 := ⟨callB_of 3 hts (good_cons goodX hoX_skipOnWord) rfl h1 h2 (hts _ hiX) (hts _ hmX_243) ⟨by decide +kernel, by decide +kernel, by decide +kernel⟩ hR, hts _ hnX_skipOnWord, hts _ hvX_skipOnWord⟩
theorem cwX_X_countAndJump {R : Room} {s0 : State} {args : Array Value} {rm : Room} (hts : ∀ w ∈ WX, w.before args s0 = true) (hR : rm.frames + 1 ≤ R.frames ∧ 8 + (7 + 11) + rm.locals ≤ R.locals) (h1 : rm.cells = 0 := by rfl) (h2 : rm.slots = 0 := by rfl) : CallW R s0 args RX RX 247 yX_countAndJump cX_countAndJump 7 none wX_countAndJump rm 0 0 4 := ⟨callB_of 4 hts (good_cons goodX hoX_countAndJump) rfl h1 h2 (hts _ hiX) (hts _ hmX_247) ⟨by decide +kernel, by decide +kernel, by decide +kernel⟩ hR, hts _ hnX_countAndJump, hts _ hvX_countAndJump⟩
theorem cwX_X_countAndSkip {R : Room} {s0 : State} {args : Array Value} {rm : Room} (hts : ∀ w ∈ WX, w.before args s0 = true) (hR : rm.frames + 1 ≤ R.frames ∧ 8 + (7 + 11) + rm.locals ≤ R.locals) (h1 : rm.cells = 0 := by rfl) (h2 : rm.slots = 0 := by rfl) : CallW R s0 args RX RX 251 yX_countAndSkip cX_countAndSkip 7 none wX_countAndSkip rm 0 0 4 := ⟨callB_of 4 hts (good_cons goodX hoX_countAndSkip) rfl h1 h2 (hts _ hiX) (hts _ hmX_251) ⟨by decide +kernel, by decide +kernel, by decide +kernel⟩ hR, hts _ hnX_countAndSkip, hts _ hvX_countAndSkip⟩
theorem cwX_X_shiftedAsNumber {R : Room} {s0 : State} {args : Array Value} {rm : Room} (hts : ∀ w ∈ WX, w.before args s0 = true) (hR : rm.frames + 1 ≤ R.frames ∧ 8 + (7 + 11) + rm.locals ≤ R.locals) (h1 : rm.cells = 0 := by rfl) (h2 : rm.slots = 0 := by rfl) : CallW R s0 args RX RX 254 yX_shiftedAsNumber cX_shiftedAsNumber 7 (some .long) wX_shiftedAsNumber rm 0 0 2 := ⟨callB_of 2 hts (good_cons goodX hoX_shiftedAsNumber) rfl h1 h2 (hts _ hiX) (hts _ hmX_254) ⟨by decide +kernel, by decide +kernel, by decide +kernel⟩ hR, hts _ hnX_shiftedAsNumber, hts _ hvX_shiftedAsNumber⟩
theorem cwX_X_rotated {R : Room} {s0 : State} {args : Array Value} {rm : Room} (hts : ∀ w ∈ WX, w.before args s0 = true) (hR : rm.frames + 1 ≤ R.frames ∧ 8 + (4 + 11) + rm.locals ≤ R.locals) (h1 : rm.cells = 0 := by rfl) (h2 : rm.slots = 0 := by rfl) : CallB R s0 args RX 258 yX_rotated cX_rotated 4 (some .long) wX_rotated rm 0 0 2 ∧ (Cond.static yX_rotated).before args s0 = true := ⟨callB_of 2 hts (good_cons goodX hoX_rotated) rfl h1 h2 (hts _ hiX) (hts _ hmX_258) ⟨by decide +kernel, by decide +kernel, by decide +kernel⟩ hR, hts _ hsX_rotated⟩
theorem cwX_X_shiftedAsBits {R : Room} {s0 : State} {args : Array Value} {rm : Room} (hts : ∀ w ∈ WX, w.before args s0 = true) (hR : rm.frames + 1 ≤ R.frames ∧ 8 + (3 + 11) + rm.locals ≤ R.locals) (h1 : rm.cells = 0 := by rfl) (h2 : rm.slots = 0 := by rfl) : CallB R s0 args RX 261 yX_shiftedAsBits cX_shiftedAsBits 3 (some .long) wX_shiftedAsBits rm 0 0 2 ∧ (Cond.static yX_shiftedAsBits).before args s0 = true := ⟨callB_of 2 hts (good_cons goodX hoX_shiftedAsBits) rfl h1 h2 (hts _ hiX) (hts _ hmX_261) ⟨by decide +kernel, by decide +kernel, by decide +kernel⟩ hR, hts _ hsX_shiftedAsBits⟩
theorem cwX_J_min {R : Room} {s0 : State} {args : Array Value} {rm : Room} (hts : ∀ w ∈ WX, w.before args s0 = true) (hR : rm.frames + 1 ≤ R.frames ∧ 8 + (2 + 11) + rm.locals ≤ R.locals) (h1 : rm.cells = 0 := by rfl) (h2 : rm.slots = 0 := by rfl) : CallB R s0 args RX 264 yJ_min cJ_min 2 (some .int) wJ_min rm 0 0 2 ∧ (Cond.static yJ_min).before args s0 = true := ⟨callB_of 2 hts (good_one goodX hoJ_min) rfl h1 h2 (hts _ hiJ) (hts _ hmX_264) ⟨by decide +kernel, by decide +kernel, by decide +kernel⟩ hR, hts _ hsJ_min⟩
theorem cwX_J_floorMod {R : Room} {s0 : State} {args : Array Value} {rm : Room} (hts : ∀ w ∈ WX, w.before args s0 = true) (hR : rm.frames + 1 ≤ R.frames ∧ 8 + (3 + 11) + rm.locals ≤ R.locals) (h1 : rm.cells = 0 := by rfl) (h2 : rm.slots = 0 := by rfl) : CallB R s0 args RX 272 yJ_floorMod cJ_floorMod 3 (some .int) wJ_floorMod rm 0 0 2 ∧ (Cond.static yJ_floorMod).before args s0 = true := ⟨callB_of 2 hts (good_one goodX hoJ_floorMod) rfl h1 h2 (hts _ hiJ) (hts _ hmX_272) ⟨by decide +kernel, by decide +kernel, by decide +kernel⟩ hR, hts _ hsJ_floorMod⟩
theorem cwX_X_exchange {R : Room} {s0 : State} {args : Array Value} {rm : Room} (hts : ∀ w ∈ WX, w.before args s0 = true) (hR : rm.frames + 1 ≤ R.frames ∧ 8 + (5 + 11) + rm.locals ≤ R.locals) (h1 : rm.cells = 0 := by rfl) (h2 : rm.slots = 0 := by rfl) : CallW R s0 args RX RX 275 yX_exchange cX_exchange 5 none wX_exchange rm 0 0 2 := ⟨callB_of 2 hts (good_cons goodX hoX_exchange) rfl h1 h2 (hts _ hiX) (hts _ hmX_275) ⟨by decide +kernel, by decide +kernel, by decide +kernel⟩ hR, hts _ hnX_exchange, hts _ hvX_exchange⟩
theorem cwX_X_block {R : Room} {s0 : State} {args : Array Value} {rm : Room} (hts : ∀ w ∈ WX, w.before args s0 = true) (hR : rm.frames + 1 ≤ R.frames ∧ 8 + (7 + 11) + rm.locals ≤ R.locals) (h1 : rm.cells = 0 := by rfl) (h2 : rm.slots = 0 := by rfl) : CallW R s0 args RX RX 279 yX_block cX_block 7 none wX_block rm 0 0 2 := ⟨callB_of 2 hts (good_cons goodX hoX_block) rfl h1 h2 (hts _ hiX) (hts _ hmX_279) ⟨by decide +kernel, by decide +kernel, by decide +kernel⟩ hR, hts _ hnX_block, hts _ hvX_block⟩
theorem cwX_X_moveHalves {R : Room} {s0 : State} {args : Array Value} {rm : Room} (hts : ∀ w ∈ WX, w.before args s0 = true) (hR : rm.frames + 1 ≤ R.frames ∧ 8 + (5 + 11) + rm.locals ≤ R.locals) (h1 : rm.cells = 0 := by rfl) (h2 : rm.slots = 0 := by rfl) : CallW R s0 args RX RX 282 yX_moveHalves cX_moveHalves 5 none wX_moveHalves rm 0 0 2 := ⟨callB_of 2 hts (good_cons goodX hoX_moveHalves) rfl h1 h2 (hts _ hiX) (hts _ hmX_282) ⟨by decide +kernel, by decide +kernel, by decide +kernel⟩ hR, hts _ hnX_moveHalves, hts _ hvX_moveHalves⟩
theorem cwX_X_jumpByAccumulator {R : Room} {s0 : State} {args : Array Value} {rm : Room} (hts : ∀ w ∈ WX, w.before args s0 = true) (hR : rm.frames + 1 ≤ R.frames ∧ 8 + (3 + 11) + rm.locals ≤ R.locals) (h1 : rm.cells = 0 := by rfl) (h2 : rm.slots = 0 := by rfl) : CallW R s0 args RX RX 285 yX_jumpByAccumulator cX_jumpByAccumulator 3 none wX_jumpByAccumulator rm 0 0 2 := ⟨callB_of 2 hts (good_cons goodX hoX_jumpByAccumulator) rfl h1 h2 (hts _ hiX) (hts _ hmX_285) ⟨by decide +kernel, by decide +kernel, by decide +kernel⟩ hR, hts _ hnX_jumpByAccumulator, hts _ hvX_jumpByAccumulator⟩
theorem cwX_J_max {R : Room} {s0 : State} {args : Array Value} {rm : Room} (hts : ∀ w ∈ WX, w.before args s0 = true) (hR : rm.frames + 1 ≤ R.frames ∧ 8 + (2 + 11) + rm.locals ≤ R.locals) (h1 : rm.cells = 0 := by rfl) (h2 : rm.slots = 0 := by rfl) : CallB R s0 args RX 288 yJ_max cJ_max 2 (some .int) wJ_max rm 0 0 2 ∧ (Cond.static yJ_max).before args s0 = true := ⟨callB_of 2 hts (good_one goodX hoJ_max) rfl h1 h2 (hts _ hiJ) (hts _ hmX_288) ⟨by decide +kernel, by decide +kernel, by decide +kernel⟩ hR, hts _ hsJ_max⟩
theorem cwX_X_growStack {R : Room} {s0 : State} {args : Array Value} {rm : Room} (hts : ∀ w ∈ WX, w.before args s0 = true) (hR : rm.frames + 1 ≤ R.frames ∧ 8 + (2 + 11) + rm.locals ≤ R.locals) (h1 : rm.cells = 0 := by rfl) (h2 : rm.slots = 0 := by rfl) : CallW R s0 args RX RX 291 yX_growStack cX_growStack 2 none wX_growStack rm 0 0 1 := ⟨callB_of 1 hts (good_cons goodX hoX_growStack) rfl h1 h2 (hts _ hiX) (hts _ hmX_291) ⟨by decide +kernel, by decide +kernel, by decide +kernel⟩ hR, hts _ hnX_growStack, hts _ hvX_growStack⟩
theorem cwX_X_pcWord {R : Room} {s0 : State} {args : Array Value} {rm : Room} (hts : ∀ w ∈ WX, w.before args s0 = true) (hR : rm.frames + 1 ≤ R.frames ∧ 8 + (1 + 11) + rm.locals ≤ R.locals) (h1 : rm.cells = 0 := by rfl) (h2 : rm.slots = 0 := by rfl) : CallW R s0 args RX RX 294 yX_pcWord cX_pcWord 1 (some .long) wX_pcWord rm 0 0 0 := ⟨callB_of 0 hts (good_cons goodX hoX_pcWord) rfl h1 h2 (hts _ hiX) (hts _ hmX_294) ⟨by decide +kernel, by decide +kernel, by decide +kernel⟩ hR, hts _ hnX_pcWord, hts _ hvX_pcWord⟩
theorem cwX_X_shrinkStack {R : Room} {s0 : State} {args : Array Value} {rm : Room} (hts : ∀ w ∈ WX, w.before args s0 = true) (hR : rm.frames + 1 ≤ R.frames ∧ 8 + (2 + 11) + rm.locals ≤ R.locals) (h1 : rm.cells = 0 := by rfl) (h2 : rm.slots = 0 := by rfl) : CallW R s0 args RX RX 298 yX_shrinkStack cX_shrinkStack 2 none wX_shrinkStack rm 0 0 1 := ⟨callB_of 1 hts (good_cons goodX hoX_shrinkStack) rfl h1 h2 (hts _ hiX) (hts _ hmX_298) ⟨by decide +kernel, by decide +kernel, by decide +kernel⟩ hR, hts _ hnX_shrinkStack, hts _ hvX_shrinkStack⟩
theorem cwX_X_advancePointer {R : Room} {s0 : State} {args : Array Value} {rm : Room} (hts : ∀ w ∈ WX, w.before args s0 = true) (hR : rm.frames + 1 ≤ R.frames ∧ 8 + (7 + 11) + rm.locals ≤ R.locals) (h1 : rm.cells = 0 := by rfl) (h2 : rm.slots = 0 := by rfl) : CallW R s0 args RX RX 301 yX_advancePointer cX_advancePointer 7 none wX_advancePointer rm 0 0 1 := ⟨callB_of 1 hts (good_cons goodX hoX_advancePointer) rfl h1 h2 (hts _ hiX) (hts _ hmX_301) ⟨by decide +kernel, by decide +kernel, by decide +kernel⟩ hR, hts _ hnX_advancePointer, hts _ hvX_advancePointer⟩
theorem cwX_X_loadByte {R : Room} {s0 : State} {args : Array Value} {rm : Room} (hts : ∀ w ∈ WX, w.before args s0 = true) (hR : rm.frames + 1 ≤ R.frames ∧ 8 + (7 + 11) + rm.locals ≤ R.locals) (h1 : rm.cells = 0 := by rfl) (h2 : rm.slots = 0 := by rfl) : CallW R s0 args RX RX 304 yX_loadByte cX_loadByte 7 none wX_loadByte rm 0 0 3 := ⟨callB_of 3 hts (good_cons goodX hoX_loadByte) rfl h1 h2 (hts _ hiX) (hts _ hmX_304) ⟨by decide +kernel, by decide +kernel, by decide +kernel⟩ hR, hts _ hnX_loadByte, hts _ hvX_loadByte⟩
theorem cwX_X_depositByte {R : Room} {s0 : State} {args : Array Value} {rm : Room} (hts : ∀ w ∈ WX, w.before args s0 = true) (hR : rm.frames + 1 ≤ R.frames ∧ 8 + (9 + 11) + rm.locals ≤ R.locals) (h1 : rm.cells = 0 := by rfl) (h2 : rm.slots = 0 := by rfl) : CallW R s0 args RX RX 308 yX_depositByte cX_depositByte 9 none wX_depositByte rm 0 0 3 := ⟨callB_of 3 hts (good_cons goodX hoX_depositByte) rfl h1 h2 (hts _ hiX) (hts _ hmX_308) ⟨by decide +kernel, by decide +kernel, by decide +kernel⟩ hR, hts _ hnX_depositByte, hts _ hvX_depositByte⟩
theorem cwX_X_size {R : Room} {s0 : State} {args : Array Value} {rm : Room} (hts : ∀ w ∈ WX, w.before args s0 = true) (hR : rm.frames + 1 ≤ R.frames ∧ 8 + (2 + 11) + rm.locals ≤ R.locals) (h1 : rm.cells = 0 := by rfl) (h2 : rm.slots = 0 := by rfl) : CallB R s0 args RX 311 yX_size cX_size 2 (some .int) wX_size rm 0 0 1 ∧ (Cond.static yX_size).before args s0 = true := ⟨callB_of 1 hts (good_cons goodX hoX_size) rfl h1 h2 (hts _ hiX) (hts _ hmX_311) ⟨by decide +kernel, by decide +kernel, by decide +kernel⟩ hR, hts _ hsX_size⟩
theorem cwX_X_position {R : Room} {s0 : State} {args : Array Value} {rm : Room} (hts : ∀ w ∈ WX, w.before args s0 = true) (hR : rm.frames + 1 ≤ R.frames ∧ 8 + (2 + 11) + rm.locals ≤ R.locals) (h1 : rm.cells = 0 := by rfl) (h2 : rm.slots = 0 := by rfl) : CallB R s0 args RX 314 yX_position cX_position 2 (some .int) wX_position rm 0 0 1 ∧ (Cond.static yX_position).before args s0 = true := ⟨callB_of 1 hts (good_cons goodX hoX_position) rfl h1 h2 (hts _ hiX) (hts _ hmX_314) ⟨by decide +kernel, by decide +kernel, by decide +kernel⟩ hR, hts _ hsX_position⟩
theorem cwX_X_byteMask {R : Room} {s0 : State} {args : Array Value} {rm : Room} (hts : ∀ w ∈ WX, w.before args s0 = true) (hR : rm.frames + 1 ≤ R.frames ∧ 8 + (2 + 11) + rm.locals ≤ R.locals) (h1 : rm.cells = 0 := by rfl) (h2 : rm.slots = 0 := by rfl) : CallB R s0 args RX 317 yX_byteMask cX_byteMask 2 (some .long) wX_byteMask rm 0 0 1 ∧ (Cond.static yX_byteMask).before args s0 = true := ⟨callB_of 1 hts (good_cons goodX hoX_byteMask) rfl h1 h2 (hts _ hiX) (hts _ hmX_317) ⟨by decide +kernel, by decide +kernel, by decide +kernel⟩ hR, hts _ hsX_byteMask⟩
end
section
def j_abs (a0 : Int64) : Int64 := if 0 ≤ (lg_cmp a0 (0 : Int64)) then a0 else (-a0)
def j_floorMod (a0 : Int32) (a1 : Int32) : Int32 := nmv (a0 - a0 / a1 * a1) (fun x3 => if 0 ≤ (a0 ^^^ a1) then x3 else if x3 = 0 then x3 else (x3 + a1))
def j_max (a0 : Int32) (a1 : Int32) : Int32 := if a0 < a1 then a1 else a0
def j_min (a0 : Int32) (a1 : Int32) : Int32 := if a1 < a0 then a1 else a0
def x_isPlace (a0 : Int32) : Int32 := if a0 < 0 then (0 : Int32) else if (1024 : Int32) ≤ a0 then (0 : Int32) else (1 : Int32)
theorem x_isPlace_z (a0 : Int32) : x_isPlace a0 = 0 ∨ x_isPlace a0 = 1 := by
  unfold x_isPlace
  try unfold nmv
  try dsimp only
  (repeat' split) <;> first | exact Or.inl rfl | exact Or.inr rfl
def x_deposit (u : XS) (a0 : Int32) (a1 : Int64) : Option (Int32 × XS) := if (x_isPlace a0) = 0 then some ((0 : Int32), u) else if a0 < 0 ∨ 1024 ≤ a0.toNatClampNeg then none else some ((1 : Int32), (X_s_words u (vp_updL (X_words u) a0.toNatClampNeg (a1 &&& (68719476735 : Int64)))))
def x_examine (u : XS) (a0 : Int32) : Option (Int64 × XS) := if (x_isPlace a0) = 0 then some ((-1 : Int64), u) else if a0 < 0 ∨ 1024 ≤ a0.toNatClampNeg then none else some ((X_words u a0.toNatClampNeg), u)
def x_signed (a0 : Int64) : Int64 := ((a0 <<< ((28 : Int32).toInt64 &&& 63)) >>> ((28 : Int32).toInt64 &&& 63))
def x_number (u : XS) (a0 : Int32) : Option (Int64 × XS) := if (x_isPlace a0) = 0 then some ((0 : Int64), u) else if a0 < 0 ∨ 1024 ≤ a0.toNatClampNeg then none else some ((x_signed (X_words u a0.toNatClampNeg)), u)
def x_isExtent (a0 : Int32) : Int32 := if a0 < 0 then (0 : Int32) else if (1024 : Int32) < a0 then (0 : Int32) else (1 : Int32)
theorem x_isExtent_z (a0 : Int32) : x_isExtent a0 = 0 ∨ x_isExtent a0 = 1 := by
  unfold x_isExtent
  try unfold nmv
  try dsimp only
  (repeat' split) <;> first | exact Or.inl rfl | exact Or.inr rfl
def x_segment (u : XS) (a0 : Int32) (a1 : Int32) (a2 : Int32) : Option (Int32 × XS) := if a0 < 0 then some ((0 : Int32), u) else if (1 : Int32) < a0 then some ((0 : Int32), u) else if (x_isExtent a1) = 0 then some ((0 : Int32), u) else if (x_isExtent a2) = 0 then some ((0 : Int32), u) else if a0 = 0 then some ((1 : Int32), (X_s_lowBound (X_s_lowBase u a1) a2)) else some ((1 : Int32), (X_s_highBound (X_s_highBase u a1) a2))
def x_start (u : XS) (a0 : Int32) (a1 : Int32) : Option XS := if ¬ (a1 = 0 ∨ a1 = 1) then none else some (X_s_overflow (X_s_stopped (X_s_user (X_s_pc u (a0 &&& (262143 : Int32))) a1) (0 : Int32)) (0 : Int32))
def x_placeOf (u : XS) (a0 : Int32) : Int32 := if (X_user u) = 0 then a0 else if (16 : Int32) ≤ a0 then if (X_lowBound u) ≤ a0 then nmv (a0 - (131072 : Int32)) (fun x34 => if x34 < 0 then (-1 : Int32) else if (X_highBound u) ≤ x34 then (-1 : Int32) else (x34 + (X_highBase u))) else (a0 + (X_lowBase u)) else a0
def x_raise (u : XS) (a0 : Int32) : Option XS := if (X_trap u) = 0 then some (X_s_trap u a0) else some u
def x_read (u : XS) (a0 : Int32) : Option (Int64 × XS) := nmv (x_placeOf u a0) (fun x5 => if (x_isPlace x5) = 0 then (x_raise u (1 : Int32)).bind (fun z15 => some ((0 : Int64), z15)) else if x5 < 0 ∨ 1024 ≤ x5.toNatClampNeg then none else some ((X_words u x5.toNatClampNeg), u))
def x_wrapped (a0 : Int32) : Int32 := (a0 &&& (262143 : Int32))
def x_right (a0 : Int64) : Int32 := ((a0.toInt32) &&& (262143 : Int32))
def x_indexed (u : XS) (a0 : Int64) : Option (Int32 × XS) := nmv ((((a0.toUInt64 >>> ((18 : Int32).toInt64.toUInt64 &&& Int64.toUInt64 63)).toInt64).toInt32) &&& (15 : Int32)) (fun x8 => nmv (x_right a0) (fun x13 => if x8 = 0 then some (x13, u) else if x8 < 0 ∨ 1024 ≤ x8.toNatClampNeg then none else some ((x_wrapped (x13 + (x_right (X_words u x8.toNatClampNeg)))), u)))
def x_isIndirect (a0 : Int64) : Int32 := if (lg_cmp (((a0.toUInt64 >>> ((22 : Int32).toInt64.toUInt64 &&& Int64.toUInt64 63)).toInt64) &&& (1 : Int64)) (0 : Int64)) = 0 then (0 : Int32) else (1 : Int32)
theorem x_isIndirect_z (a0 : Int64) : x_isIndirect a0 = 0 ∨ x_isIndirect a0 = 1 := by
  unfold x_isIndirect
  try unfold nmv
  try dsimp only
  (repeat' split) <;> first | exact Or.inl rfl | exact Or.inr rfl
def x_take (u : XS) (a0 : Int32) : Option (Int64 × XS) := if (X_taken u) = (8 : Int32) then (x_raise u (4 : Int32)).bind (fun z11 => some ((0 : Int64), z11)) else (x_read (X_s_taken u ((X_taken u) + (1 : Int32))) a0).bind (fun z28 => some (z28.1, z28.2))
def x_effective_12 (a0 : Int64) : Nat → XS → Int64 → Int32 → Int32 → Option (Int32 × XS)
  | 0, _, _, _, _ => none
  | k + 1, u, v3, v5, v6 => if (8 : Int32) < v6 then some (v5, u) else if (X_trap u) = 0 then if (x_isIndirect v3) = 0 then some (v5, u) else (x_take u v5).bind (fun z36 => (x_indexed z36.2 z36.1).bind (fun z42 => x_effective_12 a0 k z42.2 z36.1 z42.1 (v6 + Int32.ofInt 1))) else some (v5, u)
def x_effective (u : XS) (a0 : Int64) : Option (Int32 × XS) := (x_indexed u a0).bind (fun z4 => x_effective_12 a0 11 z4.2 a0 z4.1 (0 : Int32))
def x_operation (a0 : Int64) : Int32 := ((((a0.toUInt64 >>> ((27 : Int32).toInt64.toUInt64 &&& Int64.toUInt64 63)).toInt64).toInt32) &&& (511 : Int32))
def x_accumulator (a0 : Int64) : Int32 := ((((a0.toUInt64 >>> ((23 : Int32).toInt64.toUInt64 &&& Int64.toUInt64 63)).toInt64).toInt32) &&& (15 : Int32))
def x_position (a0 : Int64) : Int32 := ((((a0.toUInt64 >>> ((30 : Int32).toInt64.toUInt64 &&& Int64.toUInt64 63)).toInt64).toInt32) &&& (63 : Int32))
def x_size (a0 : Int64) : Int32 := ((((a0.toUInt64 >>> ((24 : Int32).toInt64.toUInt64 &&& Int64.toUInt64 63)).toInt64).toInt32) &&& (63 : Int32))
def x_left (a0 : Int64) : Int32 := ((((a0.toUInt64 >>> ((18 : Int32).toInt64.toUInt64 &&& Int64.toUInt64 63)).toInt64).toInt32) &&& (262143 : Int32))
def x_joined (a0 : Int32) (a1 : Int32) : Int64 := (((a0.toInt64) <<< ((18 : Int32).toInt64 &&& 63)) ||| (a1.toInt64))
def x_write (u : XS) (a0 : Int32) (a1 : Int64) : Option XS := nmv (x_placeOf u a0) (fun x5 => if (x_isPlace x5) = 0 then (x_raise u (1 : Int32)).bind (fun z17 => some z17) else if (X_trap u) = 0 then if x5 < 0 ∨ 1024 ≤ x5.toNatClampNeg then none else some (X_s_words u (vp_updL (X_words u) x5.toNatClampNeg a1)) else some u)
def x_advancePointer_50 (a0 : Int32) (u : XS) (v2 : Int64) (v4 : Int32) (v5 : Int32) : Option XS := nmv ((x_left v2) &&& (4095 : Int32)) (fun x58 => (x_write u a0 (x_joined ((v4 <<< ((12 : Int32) &&& 31)) ||| x58) v5)).bind (fun z75 => some z75))
def x_advancePointer (u : XS) (a0 : Int32) : Option XS := (x_read u a0).bind (fun z2 => nmv ((x_position z2.1) - (x_size z2.1)) (fun x15 => nmv (x_right z2.1) (fun x21 => if 0 ≤ x15 then x_advancePointer_50 a0 z2.2 z2.1 x15 x21 else nmv (x_wrapped (x21 + (1 : Int32))) (fun x35 => nmv (j_max ((36 : Int32) - (x_size z2.1)) (0 : Int32)) (fun x48 => x_advancePointer_50 a0 z2.2 z2.1 x48 x35)))))
def x_byteMask (a0 : Int64) : Int64 := (((1 : Int64) <<< ((j_min (x_size a0) (36 : Int32)).toInt64 &&& 63)) - (1 : Int64))
def x_setAccumulator (u : XS) (a0 : Int32) (a1 : Int64) : Option XS := if (X_trap u) = 0 then if a0 < 0 ∨ 1024 ≤ a0.toNatClampNeg then none else some (X_s_words u (vp_updL (X_words u) a0.toNatClampNeg a1)) else some u
def x_loadByte (u : XS) (a0 : Int32) (a1 : Int64) (a2 : Int32) : Option XS := (x_read u a2).bind (fun z3 => (x_setAccumulator z3.2 a0 (((z3.1.toUInt64 >>> ((x_position a1).toInt64.toUInt64 &&& Int64.toUInt64 63)).toInt64) &&& (x_byteMask a1))).bind (fun z22 => some z22))
def x_depositByte (u : XS) (a0 : Int32) (a1 : Int64) (a2 : Int32) : Option XS := (x_read u a2).bind (fun z3 => nmv (((x_byteMask a1) <<< ((x_position a1).toInt64 &&& 63)) &&& (68719476735 : Int64)) (fun x21 => if a0 < 0 ∨ 1024 ≤ a0.toNatClampNeg then none else (x_write z3.2 a2 ((z3.1 &&& (x21 ^^^ (-1 : Int64))) ||| (((X_words z3.2 a0.toNatClampNeg) <<< ((x_position a1).toInt64 &&& 63)) &&& x21))).bind (fun z50 => some z50)))
def x_bytes_69 (a0 : Int32) (a1 : Int32) (a2 : Int32) (u : XS) (v4 : Int64) (v6 : Int32) : Option XS := (x_loadByte u a1 v4 v6).bind (fun z75 => some z75)
def x_bytes_35 (a0 : Int32) (a1 : Int32) (a2 : Int32) (u : XS) : Option XS := if a0 = (91 : Int32) then some u else (x_read u a2).bind (fun z44 => (x_effective z44.2 z44.1).bind (fun z52 => if a0 = (92 : Int32) then x_bytes_69 a0 a1 a2 z52.2 z44.1 z52.1 else if a0 = (93 : Int32) then x_bytes_69 a0 a1 a2 z52.2 z44.1 z52.1 else (x_depositByte z52.2 a1 z44.1 z52.1).bind (fun z87 => some z87)))
def x_bytes_30 (a0 : Int32) (a1 : Int32) (a2 : Int32) (u : XS) : Option XS := (x_advancePointer u a2).bind (fun z32 => x_bytes_35 a0 a1 a2 z32)
def x_bytes (u : XS) (a0 : Int32) (a1 : Int32) (a2 : Int32) : Option XS := if (91 : Int32) ≤ a0 then if a0 = (91 : Int32) then x_bytes_30 a0 a1 a2 u else if a0 = (92 : Int32) then x_bytes_30 a0 a1 a2 u else if a0 = (94 : Int32) then x_bytes_30 a0 a1 a2 u else x_bytes_35 a0 a1 a2 u else (x_raise u (2 : Int32)).bind (fun z8 => some z8)
def x_source (u : XS) (a0 : Int32) (a1 : Int32) : Option (Int64 × XS) := if a0 = (1 : Int32) then some ((a1.toInt64), u) else (x_read u a1).bind (fun z12 => some (z12.1, z12.2))
def x_movedSource (u : XS) (a0 : Int32) (a1 : Int32) (a2 : Int32) : Option (Int64 × XS) := if a0 = (2 : Int32) then if a1 < 0 ∨ 1024 ≤ a1.toNatClampNeg then none else some ((X_words u a1.toNatClampNeg), u) else (x_source u a0 a2).bind (fun z17 => some (z17.1, z17.2))
def x_swapped (a0 : Int64) : Int64 := (x_joined (x_right a0) (x_left a0))
def x_setOverflow (u : XS) : Option XS := if (X_trap u) = 0 then some (X_s_overflow u (1 : Int32)) else some u
def x_fitted (u : XS) (a0 : Int64) : Option (Int64 × XS) := nmv (a0 &&& (68719476735 : Int64)) (fun x5 => if (lg_cmp (x_signed x5) a0) = 0 then some (x5, u) else (x_setOverflow u).bind (fun z16 => some (x5, z16)))
def x_changedToMove (u : XS) (a0 : Int32) (a1 : Int64) : Option (Int64 × XS) := if a0 = (0 : Int32) then some (a1, u) else if a0 = (1 : Int32) then some ((x_swapped a1), u) else if a0 = (2 : Int32) then (x_fitted u (-(x_signed a1))).bind (fun z41 => some (z41.1, z41.2)) else (x_fitted u (j_abs (x_signed a1))).bind (fun z53 => some (z53.1, z53.2))
def x_setAccumulatorButZero (u : XS) (a0 : Int32) (a1 : Int64) : Option XS := if a0 = 0 then some u else (x_setAccumulator u a0 a1).bind (fun z7 => some z7)
def x_putMoved (u : XS) (a0 : Int32) (a1 : Int32) (a2 : Int32) (a3 : Int64) : Option XS := if a0 = (2 : Int32) then (x_write u a2 a3).bind (fun z9 => some z9) else if a0 = (3 : Int32) then (x_write u a2 a3).bind (fun z24 => (x_setAccumulatorButZero z24 a1 a3).bind (fun z31 => some z31)) else (x_setAccumulator u a1 a3).bind (fun z41 => some z41)
def x_move (u : XS) (a0 : Int32) (a1 : Int32) (a2 : Int32) : Option XS := nmv (a0 &&& (3 : Int32)) (fun x3 => (x_movedSource u x3 a1 a2).bind (fun z10 => (x_changedToMove z10.2 ((a0 >>> ((2 : Int32) &&& 31)) &&& (3 : Int32)) z10.1).bind (fun z28 => (x_putMoved z28.2 x3 a1 a2 z28.1).bind (fun z31 => some z31))))
def x_productFits (a0 : Int64) (a1 : Int64) : Int32 := nmv ((a0 * (a1 >>> ((18 : Int32).toInt64 &&& 63))) + ((a0 * (a1 &&& (262143 : Int64))) >>> ((18 : Int32).toInt64 &&& 63))) (fun x17 => if (lg_cmp x17 (-131072 : Int64)) < 0 then (0 : Int32) else if 0 ≤ (lg_cmp x17 (131072 : Int64)) then (0 : Int32) else (1 : Int32))
theorem x_productFits_z (a0 : Int64) (a1 : Int64) : x_productFits a0 a1 = 0 ∨ x_productFits a0 a1 = 1 := by
  unfold x_productFits
  try unfold nmv
  try dsimp only
  (repeat' split) <;> first | exact Or.inl rfl | exact Or.inr rfl
def x_putResult_12 (a0 : Int32) (a1 : Int32) (a2 : Int32) (a3 : Int64) (u : XS) : Option XS := if a0 = (2 : Int32) then some u else (x_setAccumulator u a1 a3).bind (fun z21 => some z21)
def x_putResult (u : XS) (a0 : Int32) (a1 : Int32) (a2 : Int32) (a3 : Int64) : Option XS := if a0 < (2 : Int32) then x_putResult_12 a0 a1 a2 a3 u else (x_write u a2 a3).bind (fun z9 => x_putResult_12 a0 a1 a2 a3 z9)
def x_multiply_54 (a0 : Int32) (a1 : Int32) (a2 : Int32) (u : XS) (v4 : Int32) (v5 : Int64) (v7 : Int64) : Option XS := (x_putResult u v4 a1 a2 ((v5 * v7) &&& (68719476735 : Int64))).bind (fun z68 => some z68)
def x_multiply (u : XS) (a0 : Int32) (a1 : Int32) (a2 : Int32) : Option XS := if (a0 &&& (4 : Int32)) = 0 then nmv (a0 &&& (3 : Int32)) (fun x15 => if a1 < 0 ∨ 1024 ≤ a1.toNatClampNeg then none else nmv (x_signed (X_words u a1.toNatClampNeg)) (fun x26 => (x_source u x15 a2).bind (fun z32 => nmv (x_signed z32.1) (fun x38 => if (x_productFits x26 x38) = 0 then (x_setOverflow z32.2).bind (fun z51 => x_multiply_54 a0 a1 a2 z51 x15 x26 x38) else x_multiply_54 a0 a1 a2 z32.2 x15 x26 x38)))) else (x_raise u (2 : Int32)).bind (fun z8 => some z8)
def x_divide_65 (a0 : Int32) (a1 : Int32) (a2 : Int32) (u : XS) : Option XS := (x_setOverflow u).bind (fun z66 => some z66)
def x_divide_70 (a0 : Int32) (a1 : Int32) (a2 : Int32) (u : XS) (v4 : Int32) (v5 : Int64) (v7 : Int64) : Option XS := if v7 = 0 then none else (x_putResult u v4 a1 a2 ((v5 / v7) &&& (68719476735 : Int64))).bind (fun z84 => if v4 = (2 : Int32) then some z84 else if v7 = 0 then none else (x_setAccumulator z84 ((a1 + (1 : Int32)) &&& (15 : Int32)) ((v5 - v5 / v7 * v7) &&& (68719476735 : Int64))).bind (fun z109 => some z109))
def x_divide (u : XS) (a0 : Int32) (a1 : Int32) (a2 : Int32) : Option XS := if (a0 &&& (4 : Int32)) = 0 then nmv (a0 &&& (3 : Int32)) (fun x15 => if a1 < 0 ∨ 1024 ≤ a1.toNatClampNeg then none else nmv (x_signed (X_words u a1.toNatClampNeg)) (fun x26 => (x_source u x15 a2).bind (fun z32 => nmv (x_signed z32.1) (fun x38 => if (lg_cmp x38 (0 : Int64)) = 0 then x_divide_65 a0 a1 a2 z32.2 else if (lg_cmp x26 (-34359738368 : Int64)) = 0 then if (lg_cmp x38 (-1 : Int64)) = 0 then x_divide_65 a0 a1 a2 z32.2 else x_divide_70 a0 a1 a2 z32.2 x15 x26 x38 else x_divide_70 a0 a1 a2 z32.2 x15 x26 x38)))) else (x_raise u (2 : Int32)).bind (fun z8 => some z8)
def x_shiftedAsBits (a0 : Int64) (a1 : Int32) : Int64 := if a1 ≤ (-36 : Int32) then (0 : Int64) else if a1 < (36 : Int32) then if 0 ≤ a1 then ((a0 <<< (a1.toInt64 &&& 63)) &&& (68719476735 : Int64)) else ((a0.toUInt64 >>> ((-a1).toInt64.toUInt64 &&& Int64.toUInt64 63)).toInt64) else (0 : Int64)
def x_shiftedAsNumber_78 (a0 : Int64) (a1 : Int32) (u : XS) : Option (Int64 × XS) := some (((a0 &&& (34359738368 : Int64)) ||| ((x_shiftedAsBits a0 a1) &&& (-34359738369 : Int64))), u)
def x_shiftedAsNumber_67 (a0 : Int64) (a1 : Int32) (u : XS) (t0 : Int32) : Option (Int64 × XS) := if t0 = 0 then (x_setOverflow u).bind (fun z75 => x_shiftedAsNumber_78 a0 a1 z75) else x_shiftedAsNumber_78 a0 a1 u
def x_shiftedAsNumber (u : XS) (a0 : Int64) (a1 : Int32) : Option (Int64 × XS) := nmv (x_signed a0) (fun x4 => if 0 < a1 then if (36 : Int32) ≤ a1 then if (lg_cmp x4 (0 : Int64)) = 0 then x_shiftedAsNumber_67 a0 a1 u (1 : Int32) else x_shiftedAsNumber_67 a0 a1 u (0 : Int32) else if (lg_cmp (x4 >>> (((35 : Int32) - a1).toInt64 &&& 63)) (x4 >>> ((36 : Int32).toInt64 &&& 63))) = 0 then x_shiftedAsNumber_67 a0 a1 u (1 : Int32) else x_shiftedAsNumber_67 a0 a1 u (0 : Int32) else some (((x4 >>> ((j_min (-a1) (36 : Int32)).toInt64 &&& 63)) &&& (68719476735 : Int64)), u))
def x_rotated (a0 : Int64) (a1 : Int32) : Int64 := nmv (j_floorMod a1 (36 : Int32)) (fun x6 => (((a0 <<< (x6.toInt64 &&& 63)) ||| ((a0.toUInt64 >>> (((36 : Int32) - x6).toInt64.toUInt64 &&& Int64.toUInt64 63)).toInt64)) &&& (68719476735 : Int64)))
def x_shift_19 (a0 : Int32) (a1 : Int32) (a2 : Int32) (u : XS) (t0 : Int32) (t1 : Int32) : Option XS := nmv (t0 - t1) (fun x20 => if a0 = (160 : Int32) then if a1 < 0 ∨ 1024 ≤ a1.toNatClampNeg then none else (x_shiftedAsNumber u (X_words u a1.toNatClampNeg) x20).bind (fun z59 => (x_setAccumulator z59.2 a1 z59.1).bind (fun z62 => some z62)) else if a0 = (161 : Int32) then if a1 < 0 ∨ 1024 ≤ a1.toNatClampNeg then none else (x_setAccumulator u a1 (x_rotated (X_words u a1.toNatClampNeg) x20)).bind (fun z79 => some z79) else if a0 = (162 : Int32) then if a1 < 0 ∨ 1024 ≤ a1.toNatClampNeg then none else (x_setAccumulator u a1 (x_shiftedAsBits (X_words u a1.toNatClampNeg) x20)).bind (fun z96 => some z96) else (x_raise u (2 : Int32)).bind (fun z102 => some z102))
def x_shift (u : XS) (a0 : Int32) (a1 : Int32) (a2 : Int32) : Option XS := if (a2 &&& (131072 : Int32)) = 0 then x_shift_19 a0 a1 a2 u (a2 &&& (255 : Int32)) (0 : Int32) else x_shift_19 a0 a1 a2 u (a2 &&& (255 : Int32)) (256 : Int32)
def x_exchange (u : XS) (a0 : Int32) (a1 : Int32) : Option XS := (x_read u a1).bind (fun z2 => if a0 < 0 ∨ 1024 ≤ a0.toNatClampNeg then none else (x_write z2.2 a1 (X_words z2.2 a0.toNatClampNeg)).bind (fun z14 => (x_setAccumulator z14 a0 z2.1).bind (fun z20 => some z20)))
def x_block_36 (a0 : Int32) (a1 : Int32) : Nat → XS → Int32 → Int32 → Int32 → Int32 → Option XS
  | 0, _, _, _, _, _ => none
  | k + 1, u, v3, v4, v5, v6 => if v5 ≤ v6 then some u else if (X_trap u) = 0 then (x_read u (x_wrapped (v3 + v6))).bind (fun z67 => (x_write z67.2 (x_wrapped (v4 + v6)) z67.1).bind (fun z70 => x_block_36 a0 a1 k z70 v3 v4 v5 (v6 + Int32.ofInt 1))) else some u
def x_block (u : XS) (a0 : Int32) (a1 : Int32) : Option XS := if a0 < 0 ∨ 1024 ≤ a0.toNatClampNeg then none else nmv (x_left (X_words u a0.toNatClampNeg)) (fun x9 => if a0 < 0 ∨ 1024 ≤ a0.toNatClampNeg then none else nmv (x_right (X_words u a0.toNatClampNeg)) (fun x19 => nmv ((j_max (a1 - x19) (0 : Int32)) + (1 : Int32)) (fun x31 => x_block_36 a0 a1 300000 u x9 x19 x31 (0 : Int32))))
def x_moveHalves (u : XS) (a0 : Int32) (a1 : Int32) : Option XS := if a0 < 0 ∨ 1024 ≤ a0.toNatClampNeg then none else nmv (X_words u a0.toNatClampNeg) (fun x6 => (x_setAccumulator u a0 (x_joined (x_wrapped ((x_left x6) + a1)) (x_wrapped ((x_right x6) + a1)))).bind (fun z30 => some z30))
def x_jumpIf (u : XS) (a0 : Int32) (a1 : Int32) : Option XS := if a0 = 0 then some u else some (X_s_pc u a1)
def x_jumpByAccumulator_55 (a0 : Int32) (a1 : Int32) (u : XS) : Option XS := (x_raise u (2 : Int32)).bind (fun z57 => some z57)
def x_jumpByAccumulator (u : XS) (a0 : Int32) (a1 : Int32) : Option XS := if a0 = 0 then some (X_s_pc u a1) else if a0 = (1 : Int32) then some (X_s_user (X_s_pc u a1) (1 : Int32)) else if a0 = (4 : Int32) then if (X_user u) = 0 then some (X_s_stopped (X_s_pc u a1) (1 : Int32)) else x_jumpByAccumulator_55 a0 a1 u else x_jumpByAccumulator_55 a0 a1 u
def x_exchangeOrJump_76 (a0 : Int32) (a1 : Int32) (a2 : Int32) (u : XS) (t1 : Int32) : Option XS := (x_jumpIf u t1 a2).bind (fun z77 => some z77)
def x_exchangeOrJump_107 (a0 : Int32) (a1 : Int32) (a2 : Int32) (u : XS) (t1 : Int32) : Option XS := (x_jumpIf u t1 a2).bind (fun z108 => some z108)
def x_exchangeOrJump (u : XS) (a0 : Int32) (a1 : Int32) (a2 : Int32) : Option XS := if a0 = (168 : Int32) then (x_exchange u a1 a2).bind (fun z39 => some z39) else if a0 = (169 : Int32) then (x_block u a1 a2).bind (fun z46 => some z46) else if a0 = (170 : Int32) then (x_moveHalves u a1 (1 : Int32)).bind (fun z53 => if a1 < 0 ∨ 1024 ≤ a1.toNatClampNeg then none else if (lg_cmp (x_signed (X_words z53 a1.toNatClampNeg)) (0 : Int64)) < 0 then x_exchangeOrJump_76 a0 a1 a2 z53 (0 : Int32) else x_exchangeOrJump_76 a0 a1 a2 z53 (1 : Int32)) else if a0 = (171 : Int32) then (x_moveHalves u a1 (1 : Int32)).bind (fun z84 => if a1 < 0 ∨ 1024 ≤ a1.toNatClampNeg then none else if 0 ≤ (lg_cmp (x_signed (X_words z84 a1.toNatClampNeg)) (0 : Int64)) then x_exchangeOrJump_107 a0 a1 a2 z84 (0 : Int32) else x_exchangeOrJump_107 a0 a1 a2 z84 (1 : Int32)) else if a0 = (172 : Int32) then (x_jumpByAccumulator u a1 a2).bind (fun z115 => some z115) else (x_raise u (2 : Int32)).bind (fun z121 => some z121)
def x_growStack (u : XS) (a0 : Int32) : Option XS := (x_moveHalves u a0 (1 : Int32)).bind (fun z3 => if a0 < 0 ∨ 1024 ≤ a0.toNatClampNeg then none else if (x_left (X_words z3 a0.toNatClampNeg)) = 0 then (x_setOverflow z3).bind (fun z19 => some z19) else some z3)
def x_flags_13 (u : XS) (t0 : Int32) : Int32 := if (X_user u) = 0 then (t0 ||| (0 : Int32)) else (t0 ||| (4096 : Int32))
def x_flags (u : XS) : Int32 := if (X_overflow u) = 0 then x_flags_13 u (0 : Int32) else x_flags_13 u (131072 : Int32)
def x_pcWord (u : XS) : Int64 := (x_joined (x_flags u) (X_pc u))
def x_shrinkStack (u : XS) (a0 : Int32) : Option XS := (x_moveHalves u a0 (-1 : Int32)).bind (fun z3 => if a0 < 0 ∨ 1024 ≤ a0.toNatClampNeg then none else if (x_left (X_words z3 a0.toNatClampNeg)) = (262143 : Int32) then (x_setOverflow z3).bind (fun z21 => some z21) else some z3)
def x_stack (u : XS) (a0 : Int32) (a1 : Int32) (a2 : Int32) : Option XS := if a0 = (176 : Int32) then (x_growStack u a1).bind (fun z42 => if a1 < 0 ∨ 1024 ≤ a1.toNatClampNeg then none else (x_write z42 (x_right (X_words z42 a1.toNatClampNeg)) (x_pcWord z42)).bind (fun z59 => some (X_s_pc z59 a2))) else if a0 = (177 : Int32) then (x_growStack u a1).bind (fun z70 => if a1 < 0 ∨ 1024 ≤ a1.toNatClampNeg then none else (x_read z70 a2).bind (fun z85 => (x_write z85.2 (x_right (X_words z70 a1.toNatClampNeg)) z85.1).bind (fun z88 => some z88))) else if a0 = (178 : Int32) then if a1 < 0 ∨ 1024 ≤ a1.toNatClampNeg then none else (x_read u (x_right (X_words u a1.toNatClampNeg))).bind (fun z104 => (x_write z104.2 a2 z104.1).bind (fun z107 => (x_shrinkStack z107 a1).bind (fun z112 => some z112))) else if a0 = (179 : Int32) then if a1 < 0 ∨ 1024 ≤ a1.toNatClampNeg then none else (x_read u (x_right (X_words u a1.toNatClampNeg))).bind (fun z127 => (x_shrinkStack (X_s_pc z127.2 (x_right z127.1)) a1).bind (fun z138 => some z138)) else if a0 = (180 : Int32) then (x_write u a2 (x_pcWord u)).bind (fun z148 => some (X_s_pc z148 (x_wrapped (a2 + (1 : Int32))))) else if a0 = (181 : Int32) then (x_setAccumulator u a1 (x_pcWord u)).bind (fun z168 => some (X_s_pc z168 a2)) else (x_raise u (2 : Int32)).bind (fun z179 => some z179)
def x_sum_65 (a0 : Int32) (a1 : Int32) (a2 : Int32) (u : XS) (t1 : Int32) (t2 : Int32) (t3 : Int32) (t5 : Int64) : Option XS := (x_fitted u t5).bind (fun z65 => (x_putResult z65.2 t1 t2 t3 z65.1).bind (fun z68 => some z68))
def x_sum_39 (a0 : Int32) (a1 : Int32) (a2 : Int32) (u : XS) (v4 : Int32) (v5 : Int64) (v7 : Int64) (t0 : Int32) : Option XS := if t0 = 0 then x_sum_65 a0 a1 a2 u v4 a1 a2 (v5 - v7) else x_sum_65 a0 a1 a2 u v4 a1 a2 (v5 + v7)
def x_sum (u : XS) (a0 : Int32) (a1 : Int32) (a2 : Int32) : Option XS := nmv (a0 &&& (3 : Int32)) (fun x3 => if a1 < 0 ∨ 1024 ≤ a1.toNatClampNeg then none else nmv (x_signed (X_words u a1.toNatClampNeg)) (fun x14 => (x_source u x3 a2).bind (fun z20 => nmv (x_signed z20.1) (fun x26 => if (a0 &&& (4 : Int32)) = 0 then x_sum_39 a0 a1 a2 z20.2 x3 x14 x26 (1 : Int32) else x_sum_39 a0 a1 a2 z20.2 x3 x14 x26 (0 : Int32)))))
def x_holds (a0 : Int32) (a1 : Int64) : Int32 := if a0 = (1 : Int32) then if 0 ≤ (lg_cmp a1 (0 : Int64)) then (0 : Int32) else (1 : Int32) else if a0 = (2 : Int32) then if (lg_cmp a1 (0 : Int64)) = 0 then (1 : Int32) else (0 : Int32) else if a0 = (3 : Int32) then if 0 < (lg_cmp a1 (0 : Int64)) then (0 : Int32) else (1 : Int32) else if a0 = (4 : Int32) then (1 : Int32) else if a0 = (5 : Int32) then if (lg_cmp a1 (0 : Int64)) < 0 then (0 : Int32) else (1 : Int32) else if a0 = (6 : Int32) then if (lg_cmp a1 (0 : Int64)) = 0 then (0 : Int32) else (1 : Int32) else if a0 = (7 : Int32) then if (lg_cmp a1 (0 : Int64)) ≤ 0 then (0 : Int32) else (1 : Int32) else (0 : Int32)
theorem x_holds_z (a0 : Int32) (a1 : Int64) : x_holds a0 a1 = 0 ∨ x_holds a0 a1 = 1 := by
  unfold x_holds
  try unfold nmv
  try dsimp only
  (repeat' split) <;> first | exact Or.inl rfl | exact Or.inr rfl
def x_skipIf (u : XS) (a0 : Int32) : Option XS := if a0 = 0 then some u else some (X_s_pc u (x_wrapped ((X_pc u) + (1 : Int32))))
def x_skipOnWord (u : XS) (a0 : Int32) (a1 : Int32) (a2 : Int64) : Option XS := (x_setAccumulatorButZero u a1 a2).bind (fun z3 => (x_skipIf z3 (x_holds a0 (x_signed a2))).bind (fun z15 => some z15))
def x_countAndJump (u : XS) (a0 : Int32) (a1 : Int32) (a2 : Int32) (a3 : Int32) : Option XS := if a1 < 0 ∨ 1024 ≤ a1.toNatClampNeg then none else (x_fitted u ((x_signed (X_words u a1.toNatClampNeg)) + (a3.toInt64))).bind (fun z14 => (x_setAccumulator z14.2 a1 z14.1).bind (fun z23 => (x_jumpIf z23 (x_holds a0 (x_signed z14.1)) a2).bind (fun z37 => some z37)))
def x_countAndSkip (u : XS) (a0 : Int32) (a1 : Int32) (a2 : Int32) (a3 : Int32) : Option XS := (x_read u a2).bind (fun z3 => (x_fitted z3.2 ((x_signed z3.1) + (a3.toInt64))).bind (fun z13 => (x_write z13.2 a2 z13.1).bind (fun z22 => (x_skipOnWord z22 a0 a1 z13.1).bind (fun z30 => some z30))))
def x_compare (u : XS) (a0 : Int32) (a1 : Int32) (a2 : Int32) : Option XS := nmv (a0 &&& (7 : Int32)) (fun x4 => if a1 < 0 ∨ 1024 ≤ a1.toNatClampNeg then none else nmv (x_signed (X_words u a1.toNatClampNeg)) (fun x15 => if ((a0 >>> ((3 : Int32) &&& 31)) &&& (7 : Int32)) = (0 : Int32) then (x_skipIf u (x_holds x4 (x15 - (a2.toInt64)))).bind (fun z75 => some z75) else if ((a0 >>> ((3 : Int32) &&& 31)) &&& (7 : Int32)) = (1 : Int32) then (x_read u a2).bind (fun z86 => (x_skipIf z86.2 (x_holds x4 (x15 - (x_signed z86.1)))).bind (fun z96 => some z96)) else if ((a0 >>> ((3 : Int32) &&& 31)) &&& (7 : Int32)) = (2 : Int32) then (x_jumpIf u (x_holds x4 x15) a2).bind (fun z109 => some z109) else if ((a0 >>> ((3 : Int32) &&& 31)) &&& (7 : Int32)) = (3 : Int32) then (x_read u a2).bind (fun z119 => (x_skipOnWord z119.2 x4 a1 z119.1).bind (fun z122 => some z122)) else if ((a0 >>> ((3 : Int32) &&& 31)) &&& (7 : Int32)) = (4 : Int32) then (x_countAndJump u x4 a1 a2 (1 : Int32)).bind (fun z132 => some z132) else if ((a0 >>> ((3 : Int32) &&& 31)) &&& (7 : Int32)) = (5 : Int32) then (x_countAndSkip u x4 a1 a2 (1 : Int32)).bind (fun z142 => some z142) else if ((a0 >>> ((3 : Int32) &&& 31)) &&& (7 : Int32)) = (6 : Int32) then (x_countAndJump u x4 a1 a2 (-1 : Int32)).bind (fun z152 => some z152) else (x_countAndSkip u x4 a1 a2 (-1 : Int32)).bind (fun z162 => some z162)))
def x_logic_118 (a0 : Int32) (a1 : Int32) (a2 : Int32) (u : XS) (v4 : Int32) (v10 : Int64) : Option XS := (x_putResult u v4 a1 a2 (v10 &&& (68719476735 : Int64))).bind (fun z129 => some z129)
def x_logic_101 (a0 : Int32) (a1 : Int32) (a2 : Int32) (u : XS) (v4 : Int32) (v5 : Int32) (v6 : Int64) (v8 : Int64) (v10 : Int64) : Option XS := if (v5 &&& (1 : Int32)) = 0 then x_logic_118 a0 a1 a2 u v4 v10 else nmv (v10 ||| (v6 &&& v8)) (fun x116 => x_logic_118 a0 a1 a2 u v4 x116)
def x_logic_80 (a0 : Int32) (a1 : Int32) (a2 : Int32) (u : XS) (v4 : Int32) (v5 : Int32) (v6 : Int64) (v8 : Int64) (v10 : Int64) : Option XS := if (v5 &&& (2 : Int32)) = 0 then x_logic_101 a0 a1 a2 u v4 v5 v6 v8 v10 else nmv (v10 ||| (v6 &&& (v8 ^^^ (-1 : Int64)))) (fun x99 => x_logic_101 a0 a1 a2 u v4 v5 v6 v8 x99)
def x_logic_59 (a0 : Int32) (a1 : Int32) (a2 : Int32) (u : XS) (v4 : Int32) (v5 : Int32) (v6 : Int64) (v8 : Int64) (v10 : Int64) : Option XS := if (v5 &&& (4 : Int32)) = 0 then x_logic_80 a0 a1 a2 u v4 v5 v6 v8 v10 else nmv (v10 ||| ((v6 ^^^ (-1 : Int64)) &&& v8)) (fun x78 => x_logic_80 a0 a1 a2 u v4 v5 v6 v8 x78)
def x_logic (u : XS) (a0 : Int32) (a1 : Int32) (a2 : Int32) : Option XS := nmv (a0 &&& (3 : Int32)) (fun x3 => nmv ((a0 >>> ((2 : Int32) &&& 31)) &&& (15 : Int32)) (fun x11 => if a1 < 0 ∨ 1024 ≤ a1.toNatClampNeg then none else nmv (X_words u a1.toNatClampNeg) (fun x19 => (x_source u x3 a2).bind (fun z25 => if (x11 &&& (8 : Int32)) = 0 then x_logic_59 a0 a1 a2 z25.2 x3 x11 x19 z25.1 (0 : Int64) else nmv ((0 : Int64) ||| ((x19 ^^^ (-1 : Int64)) &&& (z25.1 ^^^ (-1 : Int64)))) (fun x57 => x_logic_59 a0 a1 a2 z25.2 x3 x11 x19 z25.1 x57)))))
def x_otherHalf (a0 : Int32) (a1 : Int32) (a2 : Int32) : Int32 := if a0 = (0 : Int32) then a2 else if a0 = (1 : Int32) then (0 : Int32) else if a0 = (2 : Int32) then (262143 : Int32) else if (a1 &&& (131072 : Int32)) = 0 then (0 : Int32) else (262143 : Int32)
def x_halves_143 (a0 : Int32) (a1 : Int32) (a2 : Int32) (u : XS) (t1 : Int32) (t2 : Int32) (t3 : Int32) (t4 : Int64) : Option XS := (x_putMoved u t1 t2 t3 t4).bind (fun z143 => some z143)
def x_halves_111 (a0 : Int32) (a1 : Int32) (a2 : Int32) (u : XS) (v4 : Int32) (v5 : Int32) (v11 : Int32) (t0 : Int32) (t1 : Int32) (t2 : Int32) : Option XS := nmv (x_otherHalf t0 t1 t2) (fun x114 => if v5 = 0 then x_halves_143 a0 a1 a2 u v4 a1 a2 (x_joined v11 x114) else x_halves_143 a0 a1 a2 u v4 a1 a2 (x_joined x114 v11))
def x_halves_84 (a0 : Int32) (a1 : Int32) (a2 : Int32) (u : XS) (v4 : Int32) (v5 : Int32) (v9 : Int64) (t0 : Int32) : Option XS := if v5 = 0 then x_halves_111 a0 a1 a2 u v4 v5 t0 ((a0 >>> ((3 : Int32) &&& 31)) &&& (3 : Int32)) t0 (x_right v9) else x_halves_111 a0 a1 a2 u v4 v5 t0 ((a0 >>> ((3 : Int32) &&& 31)) &&& (3 : Int32)) t0 (x_left v9)
def x_halves_62 (a0 : Int32) (a1 : Int32) (a2 : Int32) (u : XS) (v4 : Int32) (v5 : Int32) (v6 : Int32) (v7 : Int64) (t0 : Int64) : Option XS := if v5 = v6 then x_halves_84 a0 a1 a2 u v4 v5 t0 (x_left v7) else x_halves_84 a0 a1 a2 u v4 v5 t0 (x_right v7)
def x_halves_30 (a0 : Int32) (a1 : Int32) (a2 : Int32) (u : XS) (v4 : Int32) (v5 : Int32) (t0 : Int32) : Option XS := (x_movedSource u v4 a1 a2).bind (fun z37 => if v4 < (2 : Int32) then if a1 < 0 ∨ 1024 ≤ a1.toNatClampNeg then none else x_halves_62 a0 a1 a2 z37.2 v4 v5 t0 z37.1 (X_words z37.2 a1.toNatClampNeg) else (x_read z37.2 a2).bind (fun z50 => x_halves_62 a0 a1 a2 z50.2 v4 v5 t0 z37.1 z50.1))
def x_halves_17 (a0 : Int32) (a1 : Int32) (a2 : Int32) (u : XS) (v4 : Int32) (t0 : Int32) : Option XS := if (a0 &&& (4 : Int32)) = 0 then x_halves_30 a0 a1 a2 u v4 t0 (0 : Int32) else x_halves_30 a0 a1 a2 u v4 t0 (1 : Int32)
def x_halves (u : XS) (a0 : Int32) (a1 : Int32) (a2 : Int32) : Option XS := nmv (a0 &&& (3 : Int32)) (fun x3 => if (a0 &&& (32 : Int32)) = 0 then x_halves_17 a0 a1 a2 u x3 (0 : Int32) else x_halves_17 a0 a1 a2 u x3 (1 : Int32))
def x_testSkips (a0 : Int32) (a1 : Int64) : Int32 := if a0 = (1 : Int32) then if (lg_cmp a1 (0 : Int64)) = 0 then (1 : Int32) else (0 : Int32) else if a0 = (2 : Int32) then (1 : Int32) else if a0 = (3 : Int32) then if (lg_cmp a1 (0 : Int64)) = 0 then (0 : Int32) else (1 : Int32) else (0 : Int32)
theorem x_testSkips_z (a0 : Int32) (a1 : Int64) : x_testSkips a0 a1 = 0 ∨ x_testSkips a0 a1 = 1 := by
  unfold x_testSkips
  try unfold nmv
  try dsimp only
  (repeat' split) <;> first | exact Or.inl rfl | exact Or.inr rfl
def x_maskedChange (a0 : Int32) (a1 : Int64) (a2 : Int64) : Int64 := if a0 = (1 : Int32) then (a1 &&& (a2 ^^^ (-1 : Int64))) else if a0 = (2 : Int32) then (a1 ^^^ a2) else if a0 = (3 : Int32) then (a1 ||| a2) else a1
def x_test_32 (a0 : Int32) (a1 : Int32) (a2 : Int32) (u : XS) (v4 : Int64) : Option XS := if a1 < 0 ∨ 1024 ≤ a1.toNatClampNeg then none else nmv (X_words u a1.toNatClampNeg) (fun x38 => (x_skipIf u (x_testSkips ((a0 >>> ((1 : Int32) &&& 31)) &&& (3 : Int32)) (x38 &&& v4))).bind (fun z54 => (x_setAccumulator z54 a1 (x_maskedChange ((a0 >>> ((4 : Int32) &&& 31)) &&& (3 : Int32)) x38 v4)).bind (fun z71 => some z71)))
def x_test_17 (a0 : Int32) (a1 : Int32) (a2 : Int32) (u : XS) (t0 : Int64) : Option XS := if (a0 &&& (1 : Int32)) = 0 then x_test_32 a0 a1 a2 u t0 else nmv (x_swapped t0) (fun x30 => x_test_32 a0 a1 a2 u x30)
def x_test (u : XS) (a0 : Int32) (a1 : Int32) (a2 : Int32) : Option XS := if (a0 &&& (8 : Int32)) = 0 then x_test_17 a0 a1 a2 u (a2.toInt64) else (x_read u a2).bind (fun z9 => x_test_17 a0 a1 a2 z9.2 z9.1)
def x_carryOut (u : XS) (a0 : Int32) (a1 : Int32) (a2 : Int32) : Option XS := if (a0 >>> ((3 : Int32) &&& 31)) = (11 : Int32) then (x_bytes u a0 a1 a2).bind (fun z72 => some z72) else if (a0 >>> ((3 : Int32) &&& 31)) = (12 : Int32) then if (a0 >>> ((6 : Int32) &&& 31)) = (3 : Int32) then (x_compare u a0 a1 a2).bind (fun z172 => some z172) else if (a0 >>> ((6 : Int32) &&& 31)) = (4 : Int32) then (x_logic u a0 a1 a2).bind (fun z180 => some z180) else if (a0 >>> ((6 : Int32) &&& 31)) = (5 : Int32) then (x_halves u a0 a1 a2).bind (fun z188 => some z188) else if (a0 >>> ((6 : Int32) &&& 31)) = (6 : Int32) then (x_test u a0 a1 a2).bind (fun z196 => some z196) else (x_raise u (2 : Int32)).bind (fun z202 => some z202) else if (a0 >>> ((3 : Int32) &&& 31)) = (13 : Int32) then if (a0 >>> ((6 : Int32) &&& 31)) = (3 : Int32) then (x_compare u a0 a1 a2).bind (fun z172 => some z172) else if (a0 >>> ((6 : Int32) &&& 31)) = (4 : Int32) then (x_logic u a0 a1 a2).bind (fun z180 => some z180) else if (a0 >>> ((6 : Int32) &&& 31)) = (5 : Int32) then (x_halves u a0 a1 a2).bind (fun z188 => some z188) else if (a0 >>> ((6 : Int32) &&& 31)) = (6 : Int32) then (x_test u a0 a1 a2).bind (fun z196 => some z196) else (x_raise u (2 : Int32)).bind (fun z202 => some z202) else if (a0 >>> ((3 : Int32) &&& 31)) = (14 : Int32) then if (a0 >>> ((6 : Int32) &&& 31)) = (3 : Int32) then (x_compare u a0 a1 a2).bind (fun z172 => some z172) else if (a0 >>> ((6 : Int32) &&& 31)) = (4 : Int32) then (x_logic u a0 a1 a2).bind (fun z180 => some z180) else if (a0 >>> ((6 : Int32) &&& 31)) = (5 : Int32) then (x_halves u a0 a1 a2).bind (fun z188 => some z188) else if (a0 >>> ((6 : Int32) &&& 31)) = (6 : Int32) then (x_test u a0 a1 a2).bind (fun z196 => some z196) else (x_raise u (2 : Int32)).bind (fun z202 => some z202) else if (a0 >>> ((3 : Int32) &&& 31)) = (15 : Int32) then if (a0 >>> ((6 : Int32) &&& 31)) = (3 : Int32) then (x_compare u a0 a1 a2).bind (fun z172 => some z172) else if (a0 >>> ((6 : Int32) &&& 31)) = (4 : Int32) then (x_logic u a0 a1 a2).bind (fun z180 => some z180) else if (a0 >>> ((6 : Int32) &&& 31)) = (5 : Int32) then (x_halves u a0 a1 a2).bind (fun z188 => some z188) else if (a0 >>> ((6 : Int32) &&& 31)) = (6 : Int32) then (x_test u a0 a1 a2).bind (fun z196 => some z196) else (x_raise u (2 : Int32)).bind (fun z202 => some z202) else if (a0 >>> ((3 : Int32) &&& 31)) = (16 : Int32) then (x_move u a0 a1 a2).bind (fun z80 => some z80) else if (a0 >>> ((3 : Int32) &&& 31)) = (17 : Int32) then (x_move u a0 a1 a2).bind (fun z80 => some z80) else if (a0 >>> ((3 : Int32) &&& 31)) = (18 : Int32) then (x_multiply u a0 a1 a2).bind (fun z88 => some z88) else if (a0 >>> ((3 : Int32) &&& 31)) = (19 : Int32) then (x_divide u a0 a1 a2).bind (fun z96 => some z96) else if (a0 >>> ((3 : Int32) &&& 31)) = (20 : Int32) then (x_shift u a0 a1 a2).bind (fun z104 => some z104) else if (a0 >>> ((3 : Int32) &&& 31)) = (21 : Int32) then (x_exchangeOrJump u a0 a1 a2).bind (fun z112 => some z112) else if (a0 >>> ((3 : Int32) &&& 31)) = (22 : Int32) then (x_stack u a0 a1 a2).bind (fun z120 => some z120) else if (a0 >>> ((3 : Int32) &&& 31)) = (23 : Int32) then (x_sum u a0 a1 a2).bind (fun z128 => some z128) else if (a0 >>> ((6 : Int32) &&& 31)) = (3 : Int32) then (x_compare u a0 a1 a2).bind (fun z172 => some z172) else if (a0 >>> ((6 : Int32) &&& 31)) = (4 : Int32) then (x_logic u a0 a1 a2).bind (fun z180 => some z180) else if (a0 >>> ((6 : Int32) &&& 31)) = (5 : Int32) then (x_halves u a0 a1 a2).bind (fun z188 => some z188) else if (a0 >>> ((6 : Int32) &&& 31)) = (6 : Int32) then (x_test u a0 a1 a2).bind (fun z196 => some z196) else (x_raise u (2 : Int32)).bind (fun z202 => some z202)
def x_enterTrap (u : XS) (a0 : Int32) : Option XS := some (X_s_latestTrap (X_s_traps (X_s_pc (X_s_user (X_s_words u (vp_updL (X_words u) (32 : Int32).toNatClampNeg (x_joined ((x_flags u) ||| (X_trap u)) a0))) (0 : Int32)) (33 : Int32)) ((X_traps (X_s_pc (X_s_user (X_s_words u (vp_updL (X_words u) (32 : Int32).toNatClampNeg (x_joined ((x_flags u) ||| (X_trap u)) a0))) (0 : Int32)) (33 : Int32))) + (1 : Int32))) (X_trap (X_s_traps (X_s_pc (X_s_user (X_s_words u (vp_updL (X_words u) (32 : Int32).toNatClampNeg (x_joined ((x_flags u) ||| (X_trap u)) a0))) (0 : Int32)) (33 : Int32)) ((X_traps (X_s_pc (X_s_user (X_s_words u (vp_updL (X_words u) (32 : Int32).toNatClampNeg (x_joined ((x_flags u) ||| (X_trap u)) a0))) (0 : Int32)) (33 : Int32))) + (1 : Int32)))))
def x_step_122 (u : XS) (v1 : Int32) : Option XS := if (X_trap u) = 0 then some u else (x_enterTrap u v1).bind (fun z131 => some z131)
def x_step_101 (u : XS) (v1 : Int32) (v2 : Int64) (v4 : Int32) : Option XS := if (X_trap u) = 0 then (x_carryOut u (x_operation v2) (x_accumulator v2) v4).bind (fun z119 => x_step_122 z119 v1) else x_step_122 u v1
def x_step_57  : Nat → XS → Int32 → Int64 → Int32 → Int32 → Option XS
  | 0, _, _, _, _, _ => none
  | k + 1, u, v1, v2, v4, v5 => if (8 : Int32) < v5 then x_step_101 u v1 v2 v4 else if (X_trap u) = 0 then if (x_operation v2) = (174 : Int32) then (x_take u v4).bind (fun z84 => (x_effective z84.2 z84.1).bind (fun z90 => x_step_57 k z90.2 v1 z84.1 z90.1 (v5 + Int32.ofInt 1))) else x_step_101 u v1 v2 v4 else x_step_101 u v1 v2 v4
def x_step (u : XS) : Option XS := nmv (X_pc u) (fun x4 => (x_read (X_s_taken (X_s_trap (X_s_steps u ((X_steps u) + (1 : Int32))) (0 : Int32)) (0 : Int32)) (X_pc (X_s_taken (X_s_trap (X_s_steps u ((X_steps u) + (1 : Int32))) (0 : Int32)) (0 : Int32)))).bind (fun z30 => (x_effective (X_s_pc z30.2 (x_wrapped ((X_pc z30.2) + (1 : Int32)))) z30.1).bind (fun z49 => x_step_57 11 z49.2 x4 z30.1 z49.1 (0 : Int32))))
def x_run_15 (a0 : Int32) : Nat → XS → Int32 → Option (Int32 × XS)
  | 0, _, _ => none
  | k + 1, u, v2 => if a0 ≤ v2 then some (v2, u) else if (X_stopped u) = 0 then (x_step u).bind (fun z28 => x_run_15 a0 k z28 (v2 + Int32.ofInt 1)) else some (v2, u)
def x_run (u : XS) (a0 : Int32) : Option (Int32 × XS) := if a0 < (1 : Int32) then some ((-1 : Int32), u) else if a0 ≤ (100 : Int32) then x_run_15 a0 101 u (0 : Int32) else some ((-1 : Int32), u)
def x_look (u : XS) (a0 : Int32) : Int32 := if a0 = (0 : Int32) then (X_pc u) else if a0 = (1 : Int32) then if (X_user u) = 0 then (0 : Int32) else (1 : Int32) else if a0 = (2 : Int32) then if (X_overflow u) = 0 then (0 : Int32) else (1 : Int32) else if a0 = (3 : Int32) then if (X_stopped u) = 0 then (0 : Int32) else (1 : Int32) else if a0 = (4 : Int32) then (X_steps u) else if a0 = (5 : Int32) then (X_traps u) else if a0 = (6 : Int32) then (X_latestTrap u) else (-1 : Int32)
end
section
set_option maxHeartbeats 4000000 in
set_option maxRecDepth 100000 in
theorem cj_abs (l : Launch) (a0 : Int64) : gPl l yJ_abs wJ_abs (rmF 0 0) [.long a0] (j_abs a0) := by
  obtain ⟨z, hz⟩ : ∃ z, z = j_abs a0 := ⟨_, rfl⟩
  rw [← hz]
  have hfin := hz.symm
  clear hz
  refine g_start (by decide +kernel) (Nat.le_of_ble_eq_true rfl) ?_
  intro p e s0 m args below meth c ls X hr hlk hB hl
  have hl : lv_has ls 2 [(0, .long a0)] := hl
  have hx := X.1
  have hb := X.2.1
  rw [j_abs] at hfin
  refine lv_lload_n hx hb dJ_abs_0 rfl (lv_at hl 0 rfl) ?_
  refine lv_lconst (v := (0 : Int64)) hx hb dJ_abs_1 (by decide) ?_
  refine W.lcmp hx hb dJ_abs_2 ?_
  refine lv_if_ge (tgt := 11) hx hb dJ_abs_3 (by decide) (fun hc3 => ?_) (fun hc3 => ?_)
  · rw [if_pos hc3] at hfin
    refine lv_lload_n hx hb dJ_abs_11 rfl (lv_at hl 0 rfl) ?_
    exact g_lretP X hr hlk hfin dJ_abs_12
  rw [if_neg hc3] at hfin
  refine lv_lload_n hx hb dJ_abs_6 rfl (lv_at hl 0 rfl) ?_
  refine lv_lneg hx hb dJ_abs_7 ?_
  refine lv_goto (tgt := 12) hx hb dJ_abs_8 (by decide) ?_
  exact g_lretP X hr hlk hfin dJ_abs_12
set_option maxHeartbeats 4000000 in
set_option maxRecDepth 100000 in
theorem cj_floorMod (l : Launch) (a0 : Int32) (a1 : Int32) (hq : ¬ a1 = 0) : gPi l yJ_floorMod wJ_floorMod (rmF 0 0) [.int a0, .int a1] (j_floorMod a0 a1) := by
  obtain ⟨z, hz⟩ : ∃ z, z = j_floorMod a0 a1 := ⟨_, rfl⟩
  rw [← hz]
  have hfin := hz.symm
  clear hz
  refine g_start (by decide +kernel) (Nat.le_of_ble_eq_true rfl) ?_
  intro p e s0 m args below meth c ls X hr hlk hB hl
  have hl : lv_has ls 3 [(0, .int a0), (1, .int a1)] := hl
  have hx := X.1
  have hb := X.2.1
  rw [j_floorMod] at hfin
  refine lv_iload_n hx hb dJ_floorMod_0 rfl (lv_at hl 0 rfl) ?_
  refine lv_iload_n hx hb dJ_floorMod_1 rfl (lv_at hl 1 rfl) ?_
  refine lv_irem hx hb dJ_floorMod_2 hq ?_
  refine lv_topi (fun x3 e3 => ?_)
  replace hfin := nm_at hfin e3
  refine lv_istore_n (lv' := [(2, .int x3), (0, .int a0), (1, .int a1)]) hx hb dJ_floorMod_3 rfl hl (by decide) rfl (fun ls hl => ?_)
  refine lv_iload_n hx hb dJ_floorMod_4 rfl (lv_at hl 1 rfl) ?_
  refine lv_iload_n hx hb dJ_floorMod_5 rfl (lv_at hl 2 rfl) ?_
  refine lv_ixor hx hb dJ_floorMod_6 ?_
  refine lv_if_ge (tgt := 18) hx hb dJ_floorMod_7 (by decide) (fun hc7 => ?_) (fun hc7 => ?_)
  · rw [if_pos hc7] at hfin
    refine lv_iload_n hx hb dJ_floorMod_18 rfl (lv_at hl 0 rfl) ?_
    exact g_iretP X hr hlk hfin dJ_floorMod_19
  rw [if_neg hc7] at hfin
  refine lv_iload_n hx hb dJ_floorMod_10 rfl (lv_at hl 0 rfl) ?_
  refine lv_if_eq (tgt := 18) hx hb dJ_floorMod_11 (by decide) (fun hc11 => ?_) (fun hc11 => ?_)
  · rw [if_pos hc11] at hfin
    refine lv_iload_n hx hb dJ_floorMod_18 rfl (lv_at hl 0 rfl) ?_
    exact g_iretP X hr hlk hfin dJ_floorMod_19
  rw [if_neg hc11] at hfin
  refine lv_iload_n hx hb dJ_floorMod_14 rfl (lv_at hl 0 rfl) ?_
  refine lv_iload_n hx hb dJ_floorMod_15 rfl (lv_at hl 2 rfl) ?_
  refine lv_iadd hx hb dJ_floorMod_16 ?_
  exact g_iretP X hr hlk hfin dJ_floorMod_17
set_option maxHeartbeats 4000000 in
set_option maxRecDepth 100000 in
theorem cj_max (l : Launch) (a0 : Int32) (a1 : Int32) : gPi l yJ_max wJ_max (rmF 0 0) [.int a0, .int a1] (j_max a0 a1) := by
  obtain ⟨z, hz⟩ : ∃ z, z = j_max a0 a1 := ⟨_, rfl⟩
  rw [← hz]
  have hfin := hz.symm
  clear hz
  refine g_start (by decide +kernel) (Nat.le_of_ble_eq_true rfl) ?_
  intro p e s0 m args below meth c ls X hr hlk hB hl
  have hl : lv_has ls 2 [(0, .int a0), (1, .int a1)] := hl
  have hx := X.1
  have hb := X.2.1
  rw [j_max] at hfin
  refine lv_iload_n hx hb dJ_max_0 rfl (lv_at hl 0 rfl) ?_
  refine lv_iload_n hx hb dJ_max_1 rfl (lv_at hl 1 rfl) ?_
  refine lv_icmp_lt (tgt := 9) hx hb dJ_max_2 (by decide) (fun hc2 => ?_) (fun hc2 => ?_)
  · rw [if_pos hc2] at hfin
    refine lv_iload_n hx hb dJ_max_9 rfl (lv_at hl 1 rfl) ?_
    exact g_iretP X hr hlk hfin dJ_max_10
  rw [if_neg hc2] at hfin
  refine lv_iload_n hx hb dJ_max_5 rfl (lv_at hl 0 rfl) ?_
  refine lv_goto (tgt := 10) hx hb dJ_max_6 (by decide) ?_
  exact g_iretP X hr hlk hfin dJ_max_10
set_option maxHeartbeats 4000000 in
set_option maxRecDepth 100000 in
theorem cj_min (l : Launch) (a0 : Int32) (a1 : Int32) : gPi l yJ_min wJ_min (rmF 0 0) [.int a0, .int a1] (j_min a0 a1) := by
  obtain ⟨z, hz⟩ : ∃ z, z = j_min a0 a1 := ⟨_, rfl⟩
  rw [← hz]
  have hfin := hz.symm
  clear hz
  refine g_start (by decide +kernel) (Nat.le_of_ble_eq_true rfl) ?_
  intro p e s0 m args below meth c ls X hr hlk hB hl
  have hl : lv_has ls 2 [(0, .int a0), (1, .int a1)] := hl
  have hx := X.1
  have hb := X.2.1
  rw [j_min] at hfin
  refine lv_iload_n hx hb dJ_min_0 rfl (lv_at hl 0 rfl) ?_
  refine lv_iload_n hx hb dJ_min_1 rfl (lv_at hl 1 rfl) ?_
  refine lv_icmp_gt (tgt := 9) hx hb dJ_min_2 (by decide) (fun hc2 => ?_) (fun hc2 => ?_)
  · rw [if_pos hc2] at hfin
    refine lv_iload_n hx hb dJ_min_9 rfl (lv_at hl 1 rfl) ?_
    exact g_iretP X hr hlk hfin dJ_min_10
  rw [if_neg hc2] at hfin
  refine lv_iload_n hx hb dJ_min_5 rfl (lv_at hl 0 rfl) ?_
  refine lv_goto (tgt := 10) hx hb dJ_min_6 (by decide) ?_
  exact g_iretP X hr hlk hfin dJ_min_10
set_option maxHeartbeats 4000000 in
set_option maxRecDepth 100000 in
theorem cx_isPlace (l : Launch) (a0 : Int32) : gPi l yX_isPlace wX_isPlace (rmF 0 0) [.int a0] (x_isPlace a0) := by
  obtain ⟨z, hz⟩ : ∃ z, z = x_isPlace a0 := ⟨_, rfl⟩
  rw [← hz]
  have hfin := hz.symm
  clear hz
  refine g_start (plainFor_of_name (by decide)) (Nat.le_of_ble_eq_true rfl) ?_
  intro p e s0 m args below meth c ls X hr hlk hB hl
  have hl : lv_has ls 1 [(0, .int a0)] := hl
  have hx := X.1
  have hb := X.2.1
  rw [x_isPlace] at hfin
  refine lv_iload_n hx hb dX_isPlace_0 rfl (lv_at hl 0 rfl) ?_
  refine lv_if_lt (tgt := 15) hx hb dX_isPlace_1 (by decide) (fun hc1 => ?_) (fun hc1 => ?_)
  · rw [if_pos hc1] at hfin
    refine lv_iconst (v := (0 : Int32)) hx hb dX_isPlace_15 (by decide) ?_
    exact g_zretP X hr hlk rfl hfin dX_isPlace_16
  rw [if_neg hc1] at hfin
  refine lv_iload_n hx hb dX_isPlace_4 rfl (lv_at hl 0 rfl) ?_
  refine lv_sipush (v := (1024 : Int32)) hx hb dX_isPlace_5 (by decide) ?_
  refine lv_icmp_ge (tgt := 15) hx hb dX_isPlace_8 (by decide) (fun hc8 => ?_) (fun hc8 => ?_)
  · rw [if_pos hc8] at hfin
    refine lv_iconst (v := (0 : Int32)) hx hb dX_isPlace_15 (by decide) ?_
    exact g_zretP X hr hlk rfl hfin dX_isPlace_16
  rw [if_neg hc8] at hfin
  refine lv_iconst (v := (1 : Int32)) hx hb dX_isPlace_11 (by decide) ?_
  refine lv_goto (tgt := 16) hx hb dX_isPlace_12 (by decide) ?_
  exact g_zretP X hr hlk rfl hfin dX_isPlace_16
set_option maxHeartbeats 4000000 in
set_option maxRecDepth 100000 in
theorem cx_deposit (l : Launch) (D : va_G) (cA : ClassId) (o q : Nat) (hne : va_nd [o, q] = true) (u : XS) (a0 : Int32) (a1 : Int64) (z : Int32 × XS) (hfin : x_deposit u a0 a1 = some z) : gMi l yX_deposit wX_deposit (rmF 1 20) D [(cA, .long)] (XW cA o q) (XA o q) [.ref o, .int a0, .long a1] u z := by
  refine g_start (plainFor_of_name (by decide)) (Nat.le_of_ble_eq_true rfl) ?_
  intro p e s0 m args below meth c ls X hr hlk hB hl
  obtain ⟨hP0, hK⟩ := hB
  have hI : gI D (XW cA o q) (XA o q) s0.heap s0.heap [] u := ⟨hP0, va_S.rf⟩
  have hl : lv_has ls 4 [(0, .ref o), (1, .int a0), (2, .long a1)] := hl
  have hx := X.1
  have hb := X.2.1
  rw [x_deposit] at hfin
  refine lv_iload_n hx hb dX_deposit_0 rfl (lv_at hl 1 rfl) ?_
  refine g_callPi [.int a0] [] X (cx_isPlace l a0) (cwX_X_isPlace X.2.2.2.2 ⟨Nat.le_of_ble_eq_true rfl, Nat.le_of_ble_eq_true rfl⟩) rfl hl.1 rfl (Nat.le_of_ble_eq_true rfl) dX_deposit_1 ?_
  refine lv_if_ne (tgt := 9) hx hb dX_deposit_4 (by decide) (fun hc4 => ?_) (fun hc4 => ?_)
  · rw [if_neg hc4] at hfin
    refine lv_aload_n hx hb dX_deposit_9 rfl (lv_at hl 0 rfl) ?_
    refine xg_words X hK hI.1 dX_deposit_10 ?_
    refine lv_iload_n hx hb dX_deposit_13 rfl (lv_at hl 1 rfl) ?_
    refine lv_lload_n hx hb dX_deposit_14 rfl (lv_at hl 2 rfl) ?_
    refine lv_ldc2 hx hb X.2.2.2.1 (X.2.2.2.2 _ hkX_17) dX_deposit_15 ?_
    refine lv_land hx hb dX_deposit_18 ?_
    obtain ⟨hd19, hfin⟩ := ck_if hfin
    refine xs_words X hK (x_D hne) hI hd19 dX_deposit_19 (fun H locs hI => ?_)
    refine lv_iconst (v := (1 : Int32)) hx hb dX_deposit_20 (by decide) ?_
    exact g_zret X hr hlk rfl hK hI hfin dX_deposit_21
  rw [if_pos hc4] at hfin
  refine lv_iconst (v := (0 : Int32)) hx hb dX_deposit_7 (by decide) ?_
  exact g_zret X hr hlk rfl hK hI hfin dX_deposit_8
set_option maxHeartbeats 4000000 in
set_option maxRecDepth 100000 in
theorem cx_examine (l : Launch) (D : va_G) (cA : ClassId) (o q : Nat) (hne : va_nd [o, q] = true) (u : XS) (a0 : Int32) (z : Int64 × XS) (hfin : x_examine u a0 = some z) : gMl l yX_examine wX_examine (rmF 1 20) D [(cA, .long)] (XW cA o q) (XA o q) [.ref o, .int a0] u z := by
  refine g_start (plainFor_of_name (by decide)) (Nat.le_of_ble_eq_true rfl) ?_
  intro p e s0 m args below meth c ls X hr hlk hB hl
  obtain ⟨hP0, hK⟩ := hB
  have hI : gI D (XW cA o q) (XA o q) s0.heap s0.heap [] u := ⟨hP0, va_S.rf⟩
  have hl : lv_has ls 2 [(0, .ref o), (1, .int a0)] := hl
  have hx := X.1
  have hb := X.2.1
  rw [x_examine] at hfin
  refine lv_iload_n hx hb dX_examine_0 rfl (lv_at hl 1 rfl) ?_
  refine g_callPi [.int a0] [] X (cx_isPlace l a0) (cwX_X_isPlace X.2.2.2.2 ⟨Nat.le_of_ble_eq_true rfl, Nat.le_of_ble_eq_true rfl⟩) rfl hl.1 rfl (Nat.le_of_ble_eq_true rfl) dX_examine_1 ?_
  refine lv_if_eq (tgt := 16) hx hb dX_examine_4 (by decide) (fun hc4 => ?_) (fun hc4 => ?_)
  · rw [if_pos hc4] at hfin
    refine lv_ldc2 hx hb X.2.2.2.1 (X.2.2.2.2 _ hkX_19) dX_examine_16 ?_
    exact g_lret X hr hlk hK hI hfin dX_examine_19
  rw [if_neg hc4] at hfin
  refine lv_aload_n hx hb dX_examine_7 rfl (lv_at hl 0 rfl) ?_
  refine xg_words X hK hI.1 dX_examine_8 ?_
  refine lv_iload_n hx hb dX_examine_11 rfl (lv_at hl 1 rfl) ?_
  obtain ⟨hd12, hfin⟩ := ck_if hfin
  refine xl_words X hK hI.1 hd12 dX_examine_12 ?_
  refine lv_goto (tgt := 19) hx hb dX_examine_13 (by decide) ?_
  exact g_lret X hr hlk hK hI hfin dX_examine_19
set_option maxHeartbeats 4000000 in
set_option maxRecDepth 100000 in
theorem cx_signed (l : Launch) (a0 : Int64) : gPl l yX_signed wX_signed (rmF 0 0) [.long a0] (x_signed a0) := by
  obtain ⟨z, hz⟩ : ∃ z, z = x_signed a0 := ⟨_, rfl⟩
  rw [← hz]
  have hfin := hz.symm
  clear hz
  refine g_start (plainFor_of_name (by decide)) (Nat.le_of_ble_eq_true rfl) ?_
  intro p e s0 m args below meth c ls X hr hlk hB hl
  have hl : lv_has ls 2 [(0, .long a0)] := hl
  have hx := X.1
  have hb := X.2.1
  rw [x_signed] at hfin
  refine lv_lload_n hx hb dX_signed_0 rfl (lv_at hl 0 rfl) ?_
  refine lv_bipush (v := (28 : Int32)) hx hb dX_signed_1 (by decide) ?_
  refine lv_lshl hx hb dX_signed_3 rfl ?_
  refine lv_bipush (v := (28 : Int32)) hx hb dX_signed_4 (by decide) ?_
  refine lv_lshr hx hb dX_signed_6 rfl ?_
  exact g_lretP X hr hlk hfin dX_signed_7
set_option maxHeartbeats 4000000 in
set_option maxRecDepth 100000 in
theorem cx_number (l : Launch) (D : va_G) (cA : ClassId) (o q : Nat) (hne : va_nd [o, q] = true) (u : XS) (a0 : Int32) (z : Int64 × XS) (hfin : x_number u a0 = some z) : gMl l yX_number wX_number (rmF 1 21) D [(cA, .long)] (XW cA o q) (XA o q) [.ref o, .int a0] u z := by
  refine g_start (plainFor_of_name (by decide)) (Nat.le_of_ble_eq_true rfl) ?_
  intro p e s0 m args below meth c ls X hr hlk hB hl
  obtain ⟨hP0, hK⟩ := hB
  have hI : gI D (XW cA o q) (XA o q) s0.heap s0.heap [] u := ⟨hP0, va_S.rf⟩
  have hl : lv_has ls 2 [(0, .ref o), (1, .int a0)] := hl
  have hx := X.1
  have hb := X.2.1
  rw [x_number] at hfin
  refine lv_iload_n hx hb dX_number_0 rfl (lv_at hl 1 rfl) ?_
  refine g_callPi [.int a0] [] X (cx_isPlace l a0) (cwX_X_isPlace X.2.2.2.2 ⟨Nat.le_of_ble_eq_true rfl, Nat.le_of_ble_eq_true rfl⟩) rfl hl.1 rfl (Nat.le_of_ble_eq_true rfl) dX_number_1 ?_
  refine lv_if_eq (tgt := 19) hx hb dX_number_4 (by decide) (fun hc4 => ?_) (fun hc4 => ?_)
  · rw [if_pos hc4] at hfin
    refine lv_lconst (v := (0 : Int64)) hx hb dX_number_19 (by decide) ?_
    exact g_lret X hr hlk hK hI hfin dX_number_20
  rw [if_neg hc4] at hfin
  refine lv_aload_n hx hb dX_number_7 rfl (lv_at hl 0 rfl) ?_
  refine xg_words X hK hI.1 dX_number_8 ?_
  refine lv_iload_n hx hb dX_number_11 rfl (lv_at hl 1 rfl) ?_
  obtain ⟨hd12, hfin⟩ := ck_if hfin
  refine xl_words X hK hI.1 hd12 dX_number_12 ?_
  refine g_callPl [.long (X_words u a0.toNatClampNeg)] [] X (cx_signed l (X_words u a0.toNatClampNeg)) (cwX_X_signed X.2.2.2.2 ⟨Nat.le_of_ble_eq_true rfl, Nat.le_of_ble_eq_true rfl⟩) rfl hl.1 rfl (Nat.le_of_ble_eq_true rfl) dX_number_13 ?_
  refine lv_goto (tgt := 20) hx hb dX_number_16 (by decide) ?_
  exact g_lret X hr hlk hK hI hfin dX_number_20
set_option maxHeartbeats 4000000 in
set_option maxRecDepth 100000 in
theorem cx_isExtent (l : Launch) (a0 : Int32) : gPi l yX_isExtent wX_isExtent (rmF 0 0) [.int a0] (x_isExtent a0) := by
  obtain ⟨z, hz⟩ : ∃ z, z = x_isExtent a0 := ⟨_, rfl⟩
  rw [← hz]
  have hfin := hz.symm
  clear hz
  refine g_start (plainFor_of_name (by decide)) (Nat.le_of_ble_eq_true rfl) ?_
  intro p e s0 m args below meth c ls X hr hlk hB hl
  have hl : lv_has ls 1 [(0, .int a0)] := hl
  have hx := X.1
  have hb := X.2.1
  rw [x_isExtent] at hfin
  refine lv_iload_n hx hb dX_isExtent_0 rfl (lv_at hl 0 rfl) ?_
  refine lv_if_lt (tgt := 15) hx hb dX_isExtent_1 (by decide) (fun hc1 => ?_) (fun hc1 => ?_)
  · rw [if_pos hc1] at hfin
    refine lv_iconst (v := (0 : Int32)) hx hb dX_isExtent_15 (by decide) ?_
    exact g_zretP X hr hlk rfl hfin dX_isExtent_16
  rw [if_neg hc1] at hfin
  refine lv_iload_n hx hb dX_isExtent_4 rfl (lv_at hl 0 rfl) ?_
  refine lv_sipush (v := (1024 : Int32)) hx hb dX_isExtent_5 (by decide) ?_
  refine lv_icmp_gt (tgt := 15) hx hb dX_isExtent_8 (by decide) (fun hc8 => ?_) (fun hc8 => ?_)
  · rw [if_pos hc8] at hfin
    refine lv_iconst (v := (0 : Int32)) hx hb dX_isExtent_15 (by decide) ?_
    exact g_zretP X hr hlk rfl hfin dX_isExtent_16
  rw [if_neg hc8] at hfin
  refine lv_iconst (v := (1 : Int32)) hx hb dX_isExtent_11 (by decide) ?_
  refine lv_goto (tgt := 16) hx hb dX_isExtent_12 (by decide) ?_
  exact g_zretP X hr hlk rfl hfin dX_isExtent_16
set_option maxHeartbeats 4000000 in
set_option maxRecDepth 100000 in
theorem cx_segment (l : Launch) (D : va_G) (cA : ClassId) (o q : Nat) (hne : va_nd [o, q] = true) (u : XS) (a0 : Int32) (a1 : Int32) (a2 : Int32) (z : Int32 × XS) (hfin : x_segment u a0 a1 a2 = some z) : gMi l yX_segment wX_segment (rmF 1 20) D [(cA, .long)] (XW cA o q) (XA o q) [.ref o, .int a0, .int a1, .int a2] u z := by
  refine g_start (plainFor_of_name (by decide)) (Nat.le_of_ble_eq_true rfl) ?_
  intro p e s0 m args below meth c ls X hr hlk hB hl
  obtain ⟨hP0, hK⟩ := hB
  have hI : gI D (XW cA o q) (XA o q) s0.heap s0.heap [] u := ⟨hP0, va_S.rf⟩
  have hl : lv_has ls 4 [(0, .ref o), (1, .int a0), (2, .int a1), (3, .int a2)] := hl
  have hx := X.1
  have hb := X.2.1
  rw [x_segment] at hfin
  refine lv_iload_n hx hb dX_segment_0 rfl (lv_at hl 1 rfl) ?_
  refine lv_if_lt (tgt := 23) hx hb dX_segment_1 (by decide) (fun hc1 => ?_) (fun hc1 => ?_)
  · rw [if_pos hc1] at hfin
    refine lv_iconst (v := (0 : Int32)) hx hb dX_segment_23 (by decide) ?_
    exact g_zret X hr hlk rfl hK hI hfin dX_segment_24
  rw [if_neg hc1] at hfin
  refine lv_iload_n hx hb dX_segment_4 rfl (lv_at hl 1 rfl) ?_
  refine lv_iconst (v := (1 : Int32)) hx hb dX_segment_5 (by decide) ?_
  refine lv_icmp_gt (tgt := 23) hx hb dX_segment_6 (by decide) (fun hc6 => ?_) (fun hc6 => ?_)
  · rw [if_pos hc6] at hfin
    refine lv_iconst (v := (0 : Int32)) hx hb dX_segment_23 (by decide) ?_
    exact g_zret X hr hlk rfl hK hI hfin dX_segment_24
  rw [if_neg hc6] at hfin
  refine lv_iload_n hx hb dX_segment_9 rfl (lv_at hl 2 rfl) ?_
  refine g_callPi [.int a1] [] X (cx_isExtent l a1) (cwX_X_isExtent X.2.2.2.2 ⟨Nat.le_of_ble_eq_true rfl, Nat.le_of_ble_eq_true rfl⟩) rfl hl.1 rfl (Nat.le_of_ble_eq_true rfl) dX_segment_10 ?_
  refine lv_if_eq (tgt := 23) hx hb dX_segment_13 (by decide) (fun hc13 => ?_) (fun hc13 => ?_)
  · rw [if_pos hc13] at hfin
    refine lv_iconst (v := (0 : Int32)) hx hb dX_segment_23 (by decide) ?_
    exact g_zret X hr hlk rfl hK hI hfin dX_segment_24
  rw [if_neg hc13] at hfin
  refine lv_iload_n hx hb dX_segment_16 rfl (lv_at hl 3 rfl) ?_
  refine g_callPi [.int a2] [] X (cx_isExtent l a2) (cwX_X_isExtent X.2.2.2.2 ⟨Nat.le_of_ble_eq_true rfl, Nat.le_of_ble_eq_true rfl⟩) rfl hl.1 rfl (Nat.le_of_ble_eq_true rfl) dX_segment_17 ?_
  refine lv_if_ne (tgt := 25) hx hb dX_segment_20 (by decide) (fun hc20 => ?_) (fun hc20 => ?_)
  · rw [if_neg hc20] at hfin
    refine lv_iload_n hx hb dX_segment_25 rfl (lv_at hl 1 rfl) ?_
    refine lv_if_ne (tgt := 42) hx hb dX_segment_26 (by decide) (fun hc26 => ?_) (fun hc26 => ?_)
    · rw [if_neg hc26] at hfin
      refine lv_aload_n hx hb dX_segment_42 rfl (lv_at hl 0 rfl) ?_
      refine lv_iload_n hx hb dX_segment_43 rfl (lv_at hl 2 rfl) ?_
      refine xp_highBase X hK (x_D hne) hI dX_segment_44 (fun H locs hI => ?_)
      refine lv_aload_n hx hb dX_segment_47 rfl (lv_at hl 0 rfl) ?_
      refine lv_iload_n hx hb dX_segment_48 rfl (lv_at hl 3 rfl) ?_
      refine xp_highBound X hK (x_D hne) hI dX_segment_49 (fun H locs hI => ?_)
      refine lv_iconst (v := (1 : Int32)) hx hb dX_segment_52 (by decide) ?_
      exact g_zret X hr hlk rfl hK hI hfin dX_segment_53
    rw [if_pos hc26] at hfin
    refine lv_aload_n hx hb dX_segment_29 rfl (lv_at hl 0 rfl) ?_
    refine lv_iload_n hx hb dX_segment_30 rfl (lv_at hl 2 rfl) ?_
    refine xp_lowBase X hK (x_D hne) hI dX_segment_31 (fun H locs hI => ?_)
    refine lv_aload_n hx hb dX_segment_34 rfl (lv_at hl 0 rfl) ?_
    refine lv_iload_n hx hb dX_segment_35 rfl (lv_at hl 3 rfl) ?_
    refine xp_lowBound X hK (x_D hne) hI dX_segment_36 (fun H locs hI => ?_)
    refine lv_goto (tgt := 52) hx hb dX_segment_39 (by decide) ?_
    refine lv_iconst (v := (1 : Int32)) hx hb dX_segment_52 (by decide) ?_
    exact g_zret X hr hlk rfl hK hI hfin dX_segment_53
  rw [if_pos hc20] at hfin
  refine lv_iconst (v := (0 : Int32)) hx hb dX_segment_23 (by decide) ?_
  exact g_zret X hr hlk rfl hK hI hfin dX_segment_24
set_option maxHeartbeats 4000000 in
set_option maxRecDepth 100000 in
theorem cx_start (l : Launch) (D : va_G) (cA : ClassId) (o q : Nat) (hne : va_nd [o, q] = true) (u : XS) (a0 : Int32) (a1 : Int32) (z : XS) (hfin : x_start u a0 a1 = some z) : gMv l yX_start wX_start (rmF 0 0) D [(cA, .long)] (XW cA o q) (XA o q) [.ref o, .int a0, .int a1] u z := by
  refine g_start (plainFor_of_name (by decide)) (Nat.le_of_ble_eq_true rfl) ?_
  intro p e s0 m args below meth c ls X hr hlk hB hl
  obtain ⟨hP0, hK⟩ := hB
  have hI : gI D (XW cA o q) (XA o q) s0.heap s0.heap [] u := ⟨hP0, va_S.rf⟩
  have hl : lv_has ls 3 [(0, .ref o), (1, .int a0), (2, .int a1)] := hl
  have hx := X.1
  have hb := X.2.1
  rw [x_start] at hfin
  refine lv_aload_n hx hb dX_start_0 rfl (lv_at hl 0 rfl) ?_
  refine lv_iload_n hx hb dX_start_1 rfl (lv_at hl 1 rfl) ?_
  refine lv_ldc hx hb X.2.2.2.1 (X.2.2.2.2 _ hkX_41) dX_start_2 ?_
  refine lv_iand hx hb dX_start_4 ?_
  refine xp_pc X hK (x_D hne) hI dX_start_5 (fun H locs hI => ?_)
  refine lv_aload_n hx hb dX_start_8 rfl (lv_at hl 0 rfl) ?_
  refine lv_iload_n hx hb dX_start_9 rfl (lv_at hl 2 rfl) ?_
  obtain ⟨hd10, hfin⟩ := ck_if hfin
  refine xp_user X hK (x_D hne) hI (Classical.not_not.mp hd10) dX_start_10 (fun H locs hI => ?_)
  refine lv_aload_n hx hb dX_start_13 rfl (lv_at hl 0 rfl) ?_
  refine lv_iconst (v := (0 : Int32)) hx hb dX_start_14 (by decide) ?_
  refine xp_stopped X hK (x_D hne) hI (Or.inl rfl) dX_start_15 (fun H locs hI => ?_)
  refine lv_aload_n hx hb dX_start_18 rfl (lv_at hl 0 rfl) ?_
  refine lv_iconst (v := (0 : Int32)) hx hb dX_start_19 (by decide) ?_
  refine xp_overflow X hK (x_D hne) hI (Or.inl rfl) dX_start_20 (fun H locs hI => ?_)
  exact g_vret X hr hlk hK hI hfin dX_start_23
set_option maxHeartbeats 4000000 in
set_option maxRecDepth 100000 in
theorem cx_placeOf (l : Launch) (D : va_G) (cA : ClassId) (o q : Nat) (u : XS) (a0 : Int32) : gRi l yX_placeOf wX_placeOf (rmF 0 0) D [(cA, .long)] (XW cA o q) [.ref o, .int a0] u (x_placeOf u a0) := by
  obtain ⟨z, hz⟩ : ∃ z, z = x_placeOf u a0 := ⟨_, rfl⟩
  rw [← hz]
  have hfin := hz.symm
  clear hz
  refine g_start (plainFor_of_name (by decide)) (Nat.le_of_ble_eq_true rfl) ?_
  intro p e s0 m args below meth c ls X hr hlk hB hl
  obtain ⟨hP0, hK⟩ := hB
  have hl : lv_has ls 3 [(0, .ref o), (1, .int a0)] := hl
  have hx := X.1
  have hb := X.2.1
  rw [x_placeOf] at hfin
  refine lv_aload_n hx hb dX_placeOf_0 rfl (lv_at hl 0 rfl) ?_
  refine xg_user X hK hP0 dX_placeOf_1 ?_
  refine lv_if_eq (tgt := 13) hx hb dX_placeOf_4 (by decide) (fun hc4 => ?_) (fun hc4 => ?_)
  · rw [if_pos hc4] at hfin
    refine lv_iload_n hx hb dX_placeOf_13 rfl (lv_at hl 1 rfl) ?_
    exact g_iretP X hr hlk hfin dX_placeOf_14
  rw [if_neg hc4] at hfin
  refine lv_iload_n hx hb dX_placeOf_7 rfl (lv_at hl 1 rfl) ?_
  refine lv_bipush (v := (16 : Int32)) hx hb dX_placeOf_8 (by decide) ?_
  refine lv_icmp_ge (tgt := 15) hx hb dX_placeOf_10 (by decide) (fun hc10 => ?_) (fun hc10 => ?_)
  · rw [if_pos hc10] at hfin
    refine lv_iload_n hx hb dX_placeOf_15 rfl (lv_at hl 1 rfl) ?_
    refine lv_aload_n hx hb dX_placeOf_16 rfl (lv_at hl 0 rfl) ?_
    refine xg_lowBound X hK hP0 dX_placeOf_17 ?_
    refine lv_icmp_ge (tgt := 30) hx hb dX_placeOf_20 (by decide) (fun hc20 => ?_) (fun hc20 => ?_)
    · rw [if_pos hc20] at hfin
      refine lv_iload_n hx hb dX_placeOf_30 rfl (lv_at hl 1 rfl) ?_
      refine lv_ldc hx hb X.2.2.2.1 (X.2.2.2.2 _ hkX_110) dX_placeOf_31 ?_
      refine lv_isub hx hb dX_placeOf_33 ?_
      refine lv_topi (fun x34 e34 => ?_)
      replace hfin := nm_at hfin e34
      refine lv_istore_n (lv' := [(2, .int x34), (0, .ref o), (1, .int a0)]) hx hb dX_placeOf_34 rfl hl (by decide) rfl (fun ls hl => ?_)
      refine lv_iload_n hx hb dX_placeOf_35 rfl (lv_at hl 0 rfl) ?_
      refine lv_if_lt (tgt := 56) hx hb dX_placeOf_36 (by decide) (fun hc36 => ?_) (fun hc36 => ?_)
      · rw [if_pos hc36] at hfin
        refine lv_iconst (v := (-1 : Int32)) hx hb dX_placeOf_56 (by decide) ?_
        exact g_iretP X hr hlk hfin dX_placeOf_57
      rw [if_neg hc36] at hfin
      refine lv_iload_n hx hb dX_placeOf_39 rfl (lv_at hl 0 rfl) ?_
      refine lv_aload_n hx hb dX_placeOf_40 rfl (lv_at hl 1 rfl) ?_
      refine xg_highBound X hK hP0 dX_placeOf_41 ?_
      refine lv_icmp_ge (tgt := 56) hx hb dX_placeOf_44 (by decide) (fun hc44 => ?_) (fun hc44 => ?_)
      · rw [if_pos hc44] at hfin
        refine lv_iconst (v := (-1 : Int32)) hx hb dX_placeOf_56 (by decide) ?_
        exact g_iretP X hr hlk hfin dX_placeOf_57
      rw [if_neg hc44] at hfin
      refine lv_iload_n hx hb dX_placeOf_47 rfl (lv_at hl 0 rfl) ?_
      refine lv_aload_n hx hb dX_placeOf_48 rfl (lv_at hl 1 rfl) ?_
      refine xg_highBase X hK hP0 dX_placeOf_49 ?_
      refine lv_iadd hx hb dX_placeOf_52 ?_
      refine lv_goto (tgt := 57) hx hb dX_placeOf_53 (by decide) ?_
      exact g_iretP X hr hlk hfin dX_placeOf_57
    rw [if_neg hc20] at hfin
    refine lv_iload_n hx hb dX_placeOf_23 rfl (lv_at hl 1 rfl) ?_
    refine lv_aload_n hx hb dX_placeOf_24 rfl (lv_at hl 0 rfl) ?_
    refine xg_lowBase X hK hP0 dX_placeOf_25 ?_
    refine lv_iadd hx hb dX_placeOf_28 ?_
    exact g_iretP X hr hlk hfin dX_placeOf_29
  rw [if_neg hc10] at hfin
  refine lv_iload_n hx hb dX_placeOf_13 rfl (lv_at hl 1 rfl) ?_
  exact g_iretP X hr hlk hfin dX_placeOf_14
set_option maxHeartbeats 4000000 in
set_option maxRecDepth 100000 in
theorem cx_raise (l : Launch) (D : va_G) (cA : ClassId) (o q : Nat) (hne : va_nd [o, q] = true) (u : XS) (a0 : Int32) (z : XS) (hfin : x_raise u a0 = some z) : gMv l yX_raise wX_raise (rmF 0 0) D [(cA, .long)] (XW cA o q) (XA o q) [.ref o, .int a0] u z := by
  refine g_start (plainFor_of_name (by decide)) (Nat.le_of_ble_eq_true rfl) ?_
  intro p e s0 m args below meth c ls X hr hlk hB hl
  obtain ⟨hP0, hK⟩ := hB
  have hI : gI D (XW cA o q) (XA o q) s0.heap s0.heap [] u := ⟨hP0, va_S.rf⟩
  have hl : lv_has ls 2 [(0, .ref o), (1, .int a0)] := hl
  have hx := X.1
  have hb := X.2.1
  rw [x_raise] at hfin
  refine lv_aload_n hx hb dX_raise_0 rfl (lv_at hl 0 rfl) ?_
  refine xg_trap X hK hI.1 dX_raise_1 ?_
  refine lv_if_ne (tgt := 12) hx hb dX_raise_4 (by decide) (fun hc4 => ?_) (fun hc4 => ?_)
  · rw [if_neg hc4] at hfin
    exact g_vret X hr hlk hK hI hfin dX_raise_12
  rw [if_pos hc4] at hfin
  refine lv_aload_n hx hb dX_raise_7 rfl (lv_at hl 0 rfl) ?_
  refine lv_iload_n hx hb dX_raise_8 rfl (lv_at hl 1 rfl) ?_
  refine xp_trap X hK (x_D hne) hI dX_raise_9 (fun H locs hI => ?_)
  exact g_vret X hr hlk hK hI hfin dX_raise_12
set_option maxHeartbeats 4000000 in
set_option maxRecDepth 100000 in
theorem cx_read (l : Launch) (D : va_G) (cA : ClassId) (o q : Nat) (hne : va_nd [o, q] = true) (u : XS) (a0 : Int32) (z : Int64 × XS) (hfin : x_read u a0 = some z) : gMl l yX_read wX_read (rmF 1 22) D [(cA, .long)] (XW cA o q) (XA o q) [.ref o, .int a0] u z := by
  refine g_start (plainFor_of_name (by decide)) (Nat.le_of_ble_eq_true rfl) ?_
  intro p e s0 m args below meth c ls X hr hlk hB hl
  obtain ⟨hP0, hK⟩ := hB
  have hI : gI D (XW cA o q) (XA o q) s0.heap s0.heap [] u := ⟨hP0, va_S.rf⟩
  have hl : lv_has ls 3 [(0, .ref o), (1, .int a0)] := hl
  have hx := X.1
  have hb := X.2.1
  rw [x_read] at hfin
  refine lv_aload_n hx hb dX_read_0 rfl (lv_at hl 0 rfl) ?_
  refine lv_iload_n hx hb dX_read_1 rfl (lv_at hl 1 rfl) ?_
  refine g_callRi [.int a0] [] X hK x_rcv hI.1 (cx_placeOf l D cA o q u a0) (cwX_X_placeOf X.2.2.2.2 ⟨Nat.le_of_ble_eq_true rfl, Nat.le_of_ble_eq_true rfl⟩) rfl hl.1 rfl (Nat.le_of_ble_eq_true rfl) dX_read_2 ?_
  refine lv_topi (fun x5 e5 => ?_)
  replace hfin := nm_at hfin e5
  refine lv_istore_n (lv' := [(2, .int x5), (0, .ref o), (1, .int a0)]) hx hb dX_read_5 rfl hl (by decide) rfl (fun ls hl => ?_)
  refine lv_iload_n hx hb dX_read_6 rfl (lv_at hl 0 rfl) ?_
  refine g_callPi [.int x5] [] X (cx_isPlace l x5) (cwX_X_isPlace X.2.2.2.2 ⟨Nat.le_of_ble_eq_true rfl, Nat.le_of_ble_eq_true rfl⟩) rfl hl.1 rfl (Nat.le_of_ble_eq_true rfl) dX_read_7 ?_
  refine lv_if_ne (tgt := 20) hx hb dX_read_10 (by decide) (fun hc10 => ?_) (fun hc10 => ?_)
  · rw [if_neg hc10] at hfin
    refine lv_aload_n hx hb dX_read_20 rfl (lv_at hl 1 rfl) ?_
    refine xg_words X hK hI.1 dX_read_21 ?_
    refine lv_iload_n hx hb dX_read_24 rfl (lv_at hl 0 rfl) ?_
    obtain ⟨hd25, hfin⟩ := ck_if hfin
    refine xl_words X hK hI.1 hd25 dX_read_25 ?_
    exact g_lret X hr hlk hK hI hfin dX_read_26
  rw [if_pos hc10] at hfin
  refine lv_aload_n hx hb dX_read_13 rfl (lv_at hl 1 rfl) ?_
  refine lv_iconst (v := (1 : Int32)) hx hb dX_read_14 (by decide) ?_
  obtain ⟨z15, hz15, hfin⟩ := bd_ob hfin
  refine g_callMv [.int (1 : Int32)] [] X hK x_rcv hI (cx_raise l D cA o q hne u (1 : Int32) z15 hz15) (cwX_X_raise X.2.2.2.2 ⟨Nat.le_of_ble_eq_true rfl, Nat.le_of_ble_eq_true rfl⟩) rfl hl.1 rfl (Nat.le_of_ble_eq_true rfl) dX_read_15 (fun H locs hI => ?_)
  refine lv_lconst (v := (0 : Int64)) hx hb dX_read_18 (by decide) ?_
  exact g_lret X hr hlk hK hI hfin dX_read_19
set_option maxHeartbeats 4000000 in
set_option maxRecDepth 100000 in
theorem cx_wrapped (l : Launch) (a0 : Int32) : gPi l yX_wrapped wX_wrapped (rmF 0 0) [.int a0] (x_wrapped a0) := by
  obtain ⟨z, hz⟩ : ∃ z, z = x_wrapped a0 := ⟨_, rfl⟩
  rw [← hz]
  have hfin := hz.symm
  clear hz
  refine g_start (plainFor_of_name (by decide)) (Nat.le_of_ble_eq_true rfl) ?_
  intro p e s0 m args below meth c ls X hr hlk hB hl
  have hl : lv_has ls 1 [(0, .int a0)] := hl
  have hx := X.1
  have hb := X.2.1
  rw [x_wrapped] at hfin
  refine lv_iload_n hx hb dX_wrapped_0 rfl (lv_at hl 0 rfl) ?_
  refine lv_ldc hx hb X.2.2.2.1 (X.2.2.2.2 _ hkX_41) dX_wrapped_1 ?_
  refine lv_iand hx hb dX_wrapped_3 ?_
  exact g_iretP X hr hlk hfin dX_wrapped_4
set_option maxHeartbeats 4000000 in
set_option maxRecDepth 100000 in
theorem cx_right (l : Launch) (a0 : Int64) : gPi l yX_right wX_right (rmF 0 0) [.long a0] (x_right a0) := by
  obtain ⟨z, hz⟩ : ∃ z, z = x_right a0 := ⟨_, rfl⟩
  rw [← hz]
  have hfin := hz.symm
  clear hz
  refine g_start (plainFor_of_name (by decide)) (Nat.le_of_ble_eq_true rfl) ?_
  intro p e s0 m args below meth c ls X hr hlk hB hl
  have hl : lv_has ls 2 [(0, .long a0)] := hl
  have hx := X.1
  have hb := X.2.1
  rw [x_right] at hfin
  refine lv_lload_n hx hb dX_right_0 rfl (lv_at hl 0 rfl) ?_
  refine lv_l2i hx hb dX_right_1 rfl ?_
  refine lv_ldc hx hb X.2.2.2.1 (X.2.2.2.2 _ hkX_41) dX_right_2 ?_
  refine lv_iand hx hb dX_right_4 ?_
  exact g_iretP X hr hlk hfin dX_right_5
set_option maxHeartbeats 4000000 in
set_option maxRecDepth 100000 in
theorem cx_indexed (l : Launch) (D : va_G) (cA : ClassId) (o q : Nat) (hne : va_nd [o, q] = true) (u : XS) (a0 : Int64) (z : Int32 × XS) (hfin : x_indexed u a0 = some z) : gMi l yX_indexed wX_indexed (rmF 1 21) D [(cA, .long)] (XW cA o q) (XA o q) [.ref o, .long a0] u z := by
  refine g_start (plainFor_of_name (by decide)) (Nat.le_of_ble_eq_true rfl) ?_
  intro p e s0 m args below meth c ls X hr hlk hB hl
  obtain ⟨hP0, hK⟩ := hB
  have hI : gI D (XW cA o q) (XA o q) s0.heap s0.heap [] u := ⟨hP0, va_S.rf⟩
  have hl : lv_has ls 5 [(0, .ref o), (1, .long a0)] := hl
  have hx := X.1
  have hb := X.2.1
  rw [x_indexed] at hfin
  refine lv_lload_n hx hb dX_indexed_0 rfl (lv_at hl 1 rfl) ?_
  refine lv_bipush (v := (18 : Int32)) hx hb dX_indexed_1 (by decide) ?_
  refine lv_lushr hx hb dX_indexed_3 rfl ?_
  refine lv_l2i hx hb dX_indexed_4 rfl ?_
  refine lv_bipush (v := (15 : Int32)) hx hb dX_indexed_5 (by decide) ?_
  refine lv_iand hx hb dX_indexed_7 ?_
  refine lv_topi (fun x8 e8 => ?_)
  replace hfin := nm_at hfin e8
  refine lv_istore_n (lv' := [(3, .int x8), (0, .ref o), (1, .long a0)]) hx hb dX_indexed_8 rfl hl (by decide) rfl (fun ls hl => ?_)
  refine lv_lload_n hx hb dX_indexed_9 rfl (lv_at hl 2 rfl) ?_
  refine g_callPi [.long a0] [] X (cx_right l a0) (cwX_X_right X.2.2.2.2 ⟨Nat.le_of_ble_eq_true rfl, Nat.le_of_ble_eq_true rfl⟩) rfl hl.1 rfl (Nat.le_of_ble_eq_true rfl) dX_indexed_10 ?_
  refine lv_topi (fun x13 e13 => ?_)
  replace hfin := nm_at hfin e13
  refine lv_istore (lv' := [(4, .int x13), (3, .int x8), (0, .ref o), (1, .long a0)]) hx hb dX_indexed_13 hl (by decide) rfl (fun ls hl => ?_)
  refine lv_iload_n hx hb dX_indexed_15 rfl (lv_at hl 1 rfl) ?_
  refine lv_if_ne (tgt := 24) hx hb dX_indexed_16 (by decide) (fun hc16 => ?_) (fun hc16 => ?_)
  · rw [if_neg hc16] at hfin
    refine lv_iload hx hb dX_indexed_24 (lv_at hl 0 rfl) ?_
    refine lv_aload_n hx hb dX_indexed_26 rfl (lv_at hl 2 rfl) ?_
    refine xg_words X hK hI.1 dX_indexed_27 ?_
    refine lv_iload_n hx hb dX_indexed_30 rfl (lv_at hl 1 rfl) ?_
    obtain ⟨hd31, hfin⟩ := ck_if hfin
    refine xl_words X hK hI.1 hd31 dX_indexed_31 ?_
    refine g_callPi [.long (X_words u x8.toNatClampNeg)] [.int x13] X (cx_right l (X_words u x8.toNatClampNeg)) (cwX_X_right X.2.2.2.2 ⟨Nat.le_of_ble_eq_true rfl, Nat.le_of_ble_eq_true rfl⟩) rfl hl.1 rfl (Nat.le_of_ble_eq_true rfl) dX_indexed_32 ?_
    refine lv_iadd hx hb dX_indexed_35 ?_
    refine g_callPi [.int (x13 + (x_right (X_words u x8.toNatClampNeg)))] [] X (cx_wrapped l (x13 + (x_right (X_words u x8.toNatClampNeg)))) (cwX_X_wrapped X.2.2.2.2 ⟨Nat.le_of_ble_eq_true rfl, Nat.le_of_ble_eq_true rfl⟩) rfl hl.1 rfl (Nat.le_of_ble_eq_true rfl) dX_indexed_36 ?_
    exact g_iret X hr hlk hK hI hfin dX_indexed_39
  rw [if_pos hc16] at hfin
  refine lv_iload hx hb dX_indexed_19 (lv_at hl 0 rfl) ?_
  refine lv_goto (tgt := 39) hx hb dX_indexed_21 (by decide) ?_
  exact g_iret X hr hlk hK hI hfin dX_indexed_39
set_option maxHeartbeats 4000000 in
set_option maxRecDepth 100000 in
theorem cx_isIndirect (l : Launch) (a0 : Int64) : gPi l yX_isIndirect wX_isIndirect (rmF 0 0) [.long a0] (x_isIndirect a0) := by
  obtain ⟨z, hz⟩ : ∃ z, z = x_isIndirect a0 := ⟨_, rfl⟩
  rw [← hz]
  have hfin := hz.symm
  clear hz
  refine g_start (plainFor_of_name (by decide)) (Nat.le_of_ble_eq_true rfl) ?_
  intro p e s0 m args below meth c ls X hr hlk hB hl
  have hl : lv_has ls 2 [(0, .long a0)] := hl
  have hx := X.1
  have hb := X.2.1
  rw [x_isIndirect] at hfin
  refine lv_lload_n hx hb dX_isIndirect_0 rfl (lv_at hl 0 rfl) ?_
  refine lv_bipush (v := (22 : Int32)) hx hb dX_isIndirect_1 (by decide) ?_
  refine lv_lushr hx hb dX_isIndirect_3 rfl ?_
  refine lv_lconst (v := (1 : Int64)) hx hb dX_isIndirect_4 (by decide) ?_
  refine lv_land hx hb dX_isIndirect_5 ?_
  refine lv_lconst (v := (0 : Int64)) hx hb dX_isIndirect_6 (by decide) ?_
  refine W.lcmp hx hb dX_isIndirect_7 ?_
  refine lv_if_eq (tgt := 15) hx hb dX_isIndirect_8 (by decide) (fun hc8 => ?_) (fun hc8 => ?_)
  · rw [if_pos hc8] at hfin
    refine lv_iconst (v := (0 : Int32)) hx hb dX_isIndirect_15 (by decide) ?_
    exact g_zretP X hr hlk rfl hfin dX_isIndirect_16
  rw [if_neg hc8] at hfin
  refine lv_iconst (v := (1 : Int32)) hx hb dX_isIndirect_11 (by decide) ?_
  refine lv_goto (tgt := 16) hx hb dX_isIndirect_12 (by decide) ?_
  exact g_zretP X hr hlk rfl hfin dX_isIndirect_16
set_option maxHeartbeats 4000000 in
set_option maxRecDepth 100000 in
theorem cx_take (l : Launch) (D : va_G) (cA : ClassId) (o q : Nat) (hne : va_nd [o, q] = true) (u : XS) (a0 : Int32) (z : Int64 × XS) (hfin : x_take u a0 = some z) : gMl l yX_take wX_take (rmF 2 44) D [(cA, .long)] (XW cA o q) (XA o q) [.ref o, .int a0] u z := by
  refine g_start (plainFor_of_name (by decide)) (Nat.le_of_ble_eq_true rfl) ?_
  intro p e s0 m args below meth c ls X hr hlk hB hl
  obtain ⟨hP0, hK⟩ := hB
  have hI : gI D (XW cA o q) (XA o q) s0.heap s0.heap [] u := ⟨hP0, va_S.rf⟩
  have hl : lv_has ls 2 [(0, .ref o), (1, .int a0)] := hl
  have hx := X.1
  have hb := X.2.1
  rw [x_take] at hfin
  refine lv_aload_n hx hb dX_take_0 rfl (lv_at hl 0 rfl) ?_
  refine xg_taken X hK hI.1 dX_take_1 ?_
  refine lv_bipush (v := (8 : Int32)) hx hb dX_take_4 (by decide) ?_
  refine lv_icmp_ne (tgt := 16) hx hb dX_take_6 (by decide) (fun hc6 => ?_) (fun hc6 => ?_)
  · rw [if_neg hc6] at hfin
    refine lv_aload_n hx hb dX_take_16 rfl (lv_at hl 0 rfl) ?_
    refine lv_dup hx hb dX_take_17 rfl ?_
    refine xg_taken X hK hI.1 dX_take_18 ?_
    refine lv_iconst (v := (1 : Int32)) hx hb dX_take_21 (by decide) ?_
    refine lv_iadd hx hb dX_take_22 ?_
    refine xp_taken X hK (x_D hne) hI dX_take_23 (fun H locs hI => ?_)
    refine lv_aload_n hx hb dX_take_26 rfl (lv_at hl 0 rfl) ?_
    refine lv_iload_n hx hb dX_take_27 rfl (lv_at hl 1 rfl) ?_
    obtain ⟨z28, hz28, hfin⟩ := bd_ob hfin
    refine g_callMl [.int a0] [] X hK x_rcv hI (cx_read l D cA o q hne (X_s_taken u ((X_taken u) + (1 : Int32))) a0 z28 hz28) (cwX_X_read X.2.2.2.2 ⟨Nat.le_of_ble_eq_true rfl, Nat.le_of_ble_eq_true rfl⟩) rfl hl.1 rfl (Nat.le_of_ble_eq_true rfl) dX_take_28 (fun H locs hI => ?_)
    exact g_lret X hr hlk hK hI hfin dX_take_31
  rw [if_pos hc6] at hfin
  refine lv_aload_n hx hb dX_take_9 rfl (lv_at hl 0 rfl) ?_
  refine lv_iconst (v := (4 : Int32)) hx hb dX_take_10 (by decide) ?_
  obtain ⟨z11, hz11, hfin⟩ := bd_ob hfin
  refine g_callMv [.int (4 : Int32)] [] X hK x_rcv hI (cx_raise l D cA o q hne u (4 : Int32) z11 hz11) (cwX_X_raise X.2.2.2.2 ⟨Nat.le_of_ble_eq_true rfl, Nat.le_of_ble_eq_true rfl⟩) rfl hl.1 rfl (Nat.le_of_ble_eq_true rfl) dX_take_11 (fun H locs hI => ?_)
  refine lv_lconst (v := (0 : Int64)) hx hb dX_take_14 (by decide) ?_
  exact g_lret X hr hlk hK hI hfin dX_take_15
end
section
set_option maxHeartbeats 4000000 in
set_option maxRecDepth 100000 in
theorem cx_effective (l : Launch) (D : va_G) (cA : ClassId) (o q : Nat) (hne : va_nd [o, q] = true) (u : XS) (a0 : Int64) (z : Int32 × XS) (hfin : x_effective u a0 = some z) : gMi l yX_effective wX_effective (rmF 3 65) D [(cA, .long)] (XW cA o q) (XA o q) [.ref o, .long a0] u z := by
  refine g_start (plainFor_of_name (by decide)) (Nat.le_of_ble_eq_true rfl) ?_
  intro p e s0 m args below meth c ls X hr hlk hB hl
  obtain ⟨hP0, hK⟩ := hB
  have hI : gI D (XW cA o q) (XA o q) s0.heap s0.heap [] u := ⟨hP0, va_S.rf⟩
  have hl : lv_has ls 7 [(0, .ref o), (1, .long a0)] := hl
  have hx := X.1
  have hb := X.2.1
  have B_12 : ∀ (k : Nat) (u : XS) (v3 : Int64) (v5 : Int32) (v6 : Int32) (H : Heap) (locs : List Loc) (ls : Array Slot), lv_has ls 7 [(0, .ref o), (1, .long a0), (3, .long v3), (5, .int v5), (6, .int v6)] → gI D (XW cA o q) (XA o q) s0.heap H locs u → x_effective_12 a0 k u v3 v5 v6 = some z → W p l e (rmF 3 65) s0 m args below meth c H locs 0 0 (MQ below (va_Qi (fun r x => (r, x) = z) (gB D [(cA, .long)] (XW cA o q)) (XA o q)) args s0 0 0 (XA o q)) (F0 m 12 ls []) := by
    intro k
    induction k with
    | zero =>
      intro u v3 v5 v6 H locs ls hl hI hfin
      rw [x_effective_12] at hfin
      cases hfin
    | succ k IH =>
      intro u v3 v5 v6 H locs ls hl hI hfin
      rw [x_effective_12] at hfin
      refine lv_iload hx hb dX_effective_12 (lv_at hl 4 rfl) ?_
      refine lv_bipush (v := (8 : Int32)) hx hb dX_effective_14 (by decide) ?_
      refine lv_icmp_gt (tgt := 53) hx hb dX_effective_16 (by decide) (fun hc16 => ?_) (fun hc16 => ?_)
      · rw [if_pos hc16] at hfin
        refine lv_iload hx hb dX_effective_53 (lv_at hl 3 rfl) ?_
        exact g_iret X hr hlk hK hI hfin dX_effective_55
      rw [if_neg hc16] at hfin
      refine lv_aload_n hx hb dX_effective_19 rfl (lv_at hl 0 rfl) ?_
      refine xg_trap X hK hI.1 dX_effective_20 ?_
      refine lv_if_ne (tgt := 53) hx hb dX_effective_23 (by decide) (fun hc23 => ?_) (fun hc23 => ?_)
      · rw [if_neg hc23] at hfin
        refine lv_iload hx hb dX_effective_53 (lv_at hl 3 rfl) ?_
        exact g_iret X hr hlk hK hI hfin dX_effective_55
      rw [if_pos hc23] at hfin
      refine lv_lload_n hx hb dX_effective_26 rfl (lv_at hl 2 rfl) ?_
      refine g_callPi [.long v3] [] X (cx_isIndirect l v3) (cwX_X_isIndirect X.2.2.2.2 ⟨Nat.le_of_ble_eq_true rfl, Nat.le_of_ble_eq_true rfl⟩) rfl hl.1 rfl (Nat.le_of_ble_eq_true rfl) dX_effective_27 ?_
      refine lv_if_eq (tgt := 53) hx hb dX_effective_30 (by decide) (fun hc30 => ?_) (fun hc30 => ?_)
      · rw [if_pos hc30] at hfin
        refine lv_iload hx hb dX_effective_53 (lv_at hl 3 rfl) ?_
        exact g_iret X hr hlk hK hI hfin dX_effective_55
      rw [if_neg hc30] at hfin
      refine lv_aload_n hx hb dX_effective_33 rfl (lv_at hl 0 rfl) ?_
      refine lv_iload hx hb dX_effective_34 (lv_at hl 3 rfl) ?_
      obtain ⟨z36, hz36, hfin⟩ := bd_ob hfin
      refine g_callMl [.int v5] [] X hK x_rcv hI (cx_take l D cA o q hne u v5 z36 hz36) (cwX_X_take X.2.2.2.2 ⟨Nat.le_of_ble_eq_true rfl, Nat.le_of_ble_eq_true rfl⟩) rfl hl.1 rfl (Nat.le_of_ble_eq_true rfl) dX_effective_36 (fun H locs hI => ?_)
      refine lv_lstore_n (lv' := [(3, .long z36.1), (0, .ref o), (1, .long a0), (5, .int v5), (6, .int v6)]) hx hb dX_effective_39 rfl hl (by decide) rfl (fun ls hl => ?_)
      refine lv_aload_n hx hb dX_effective_40 rfl (lv_at hl 1 rfl) ?_
      refine lv_lload_n hx hb dX_effective_41 rfl (lv_at hl 0 rfl) ?_
      obtain ⟨z42, hz42, hfin⟩ := bd_ob hfin
      refine g_callMi [.long z36.1] [] X hK x_rcv hI (cx_indexed l D cA o q hne z36.2 z36.1 z42 hz42) (cwX_X_indexed X.2.2.2.2 ⟨Nat.le_of_ble_eq_true rfl, Nat.le_of_ble_eq_true rfl⟩) rfl hl.1 rfl (Nat.le_of_ble_eq_true rfl) dX_effective_42 (fun H locs hI => ?_)
      refine lv_istore (lv' := [(5, .int z42.1), (3, .long z36.1), (0, .ref o), (1, .long a0), (6, .int v6)]) hx hb dX_effective_45 hl (by decide) rfl (fun ls hl => ?_)
      refine lv_iinc (lv' := [(6, .int (v6 + Int32.ofInt 1)), (5, .int z42.1), (3, .long z36.1), (0, .ref o), (1, .long a0)]) (k := 4) hx hb dX_effective_47 hl rfl rfl (by decide) rfl (fun ls hl => ?_)
      refine lv_goto (tgt := 12) hx hb dX_effective_50 (by decide) ?_
      exact IH z42.2 z36.1 z42.1 (v6 + Int32.ofInt 1) H locs ls (lv_sub hl [3, 4, 2, 1, 0] rfl) hI hfin
  rw [x_effective] at hfin
  refine lv_lload_n hx hb dX_effective_0 rfl (lv_at hl 1 rfl) ?_
  refine lv_lstore_n (lv' := [(3, .long a0), (0, .ref o), (1, .long a0)]) hx hb dX_effective_1 rfl hl (by decide) rfl (fun ls hl => ?_)
  refine lv_aload_n hx hb dX_effective_2 rfl (lv_at hl 1 rfl) ?_
  refine lv_lload_n hx hb dX_effective_3 rfl (lv_at hl 0 rfl) ?_
  obtain ⟨z4, hz4, hfin⟩ := bd_ob hfin
  refine g_callMi [.long a0] [] X hK x_rcv hI (cx_indexed l D cA o q hne u a0 z4 hz4) (cwX_X_indexed X.2.2.2.2 ⟨Nat.le_of_ble_eq_true rfl, Nat.le_of_ble_eq_true rfl⟩) rfl hl.1 rfl (Nat.le_of_ble_eq_true rfl) dX_effective_4 (fun H locs hI => ?_)
  refine lv_istore (lv' := [(5, .int z4.1), (3, .long a0), (0, .ref o), (1, .long a0)]) hx hb dX_effective_7 hl (by decide) rfl (fun ls hl => ?_)
  refine lv_iconst (v := (0 : Int32)) hx hb dX_effective_9 (by decide) ?_
  refine lv_istore (lv' := [(6, .int (0 : Int32)), (5, .int z4.1), (3, .long a0), (0, .ref o), (1, .long a0)]) hx hb dX_effective_10 hl (by decide) rfl (fun ls hl => ?_)
  exact B_12 11 z4.2 a0 z4.1 (0 : Int32) H locs ls (lv_sub hl [3, 4, 2, 1, 0] rfl) hI hfin
set_option maxHeartbeats 4000000 in
set_option maxRecDepth 100000 in
theorem cx_operation (l : Launch) (a0 : Int64) : gPi l yX_operation wX_operation (rmF 0 0) [.long a0] (x_operation a0) := by
  obtain ⟨z, hz⟩ : ∃ z, z = x_operation a0 := ⟨_, rfl⟩
  rw [← hz]
  have hfin := hz.symm
  clear hz
  refine g_start (plainFor_of_name (by decide)) (Nat.le_of_ble_eq_true rfl) ?_
  intro p e s0 m args below meth c ls X hr hlk hB hl
  have hl : lv_has ls 2 [(0, .long a0)] := hl
  have hx := X.1
  have hb := X.2.1
  rw [x_operation] at hfin
  refine lv_lload_n hx hb dX_operation_0 rfl (lv_at hl 0 rfl) ?_
  refine lv_bipush (v := (27 : Int32)) hx hb dX_operation_1 (by decide) ?_
  refine lv_lushr hx hb dX_operation_3 rfl ?_
  refine lv_l2i hx hb dX_operation_4 rfl ?_
  refine lv_sipush (v := (511 : Int32)) hx hb dX_operation_5 (by decide) ?_
  refine lv_iand hx hb dX_operation_8 ?_
  exact g_iretP X hr hlk hfin dX_operation_9
set_option maxHeartbeats 4000000 in
set_option maxRecDepth 100000 in
theorem cx_accumulator (l : Launch) (a0 : Int64) : gPi l yX_accumulator wX_accumulator (rmF 0 0) [.long a0] (x_accumulator a0) := by
  obtain ⟨z, hz⟩ : ∃ z, z = x_accumulator a0 := ⟨_, rfl⟩
  rw [← hz]
  have hfin := hz.symm
  clear hz
  refine g_start (plainFor_of_name (by decide)) (Nat.le_of_ble_eq_true rfl) ?_
  intro p e s0 m args below meth c ls X hr hlk hB hl
  have hl : lv_has ls 2 [(0, .long a0)] := hl
  have hx := X.1
  have hb := X.2.1
  rw [x_accumulator] at hfin
  refine lv_lload_n hx hb dX_accumulator_0 rfl (lv_at hl 0 rfl) ?_
  refine lv_bipush (v := (23 : Int32)) hx hb dX_accumulator_1 (by decide) ?_
  refine lv_lushr hx hb dX_accumulator_3 rfl ?_
  refine lv_l2i hx hb dX_accumulator_4 rfl ?_
  refine lv_bipush (v := (15 : Int32)) hx hb dX_accumulator_5 (by decide) ?_
  refine lv_iand hx hb dX_accumulator_7 ?_
  exact g_iretP X hr hlk hfin dX_accumulator_8
set_option maxHeartbeats 4000000 in
set_option maxRecDepth 100000 in
theorem cx_position (l : Launch) (a0 : Int64) : gPi l yX_position wX_position (rmF 0 0) [.long a0] (x_position a0) := by
  obtain ⟨z, hz⟩ : ∃ z, z = x_position a0 := ⟨_, rfl⟩
  rw [← hz]
  have hfin := hz.symm
  clear hz
  refine g_start (plainFor_of_name (by decide)) (Nat.le_of_ble_eq_true rfl) ?_
  intro p e s0 m args below meth c ls X hr hlk hB hl
  have hl : lv_has ls 2 [(0, .long a0)] := hl
  have hx := X.1
  have hb := X.2.1
  rw [x_position] at hfin
  refine lv_lload_n hx hb dX_position_0 rfl (lv_at hl 0 rfl) ?_
  refine lv_bipush (v := (30 : Int32)) hx hb dX_position_1 (by decide) ?_
  refine lv_lushr hx hb dX_position_3 rfl ?_
  refine lv_l2i hx hb dX_position_4 rfl ?_
  refine lv_bipush (v := (63 : Int32)) hx hb dX_position_5 (by decide) ?_
  refine lv_iand hx hb dX_position_7 ?_
  exact g_iretP X hr hlk hfin dX_position_8
set_option maxHeartbeats 4000000 in
set_option maxRecDepth 100000 in
theorem cx_size (l : Launch) (a0 : Int64) : gPi l yX_size wX_size (rmF 0 0) [.long a0] (x_size a0) := by
  obtain ⟨z, hz⟩ : ∃ z, z = x_size a0 := ⟨_, rfl⟩
  rw [← hz]
  have hfin := hz.symm
  clear hz
  refine g_start (plainFor_of_name (by decide)) (Nat.le_of_ble_eq_true rfl) ?_
  intro p e s0 m args below meth c ls X hr hlk hB hl
  have hl : lv_has ls 2 [(0, .long a0)] := hl
  have hx := X.1
  have hb := X.2.1
  rw [x_size] at hfin
  refine lv_lload_n hx hb dX_size_0 rfl (lv_at hl 0 rfl) ?_
  refine lv_bipush (v := (24 : Int32)) hx hb dX_size_1 (by decide) ?_
  refine lv_lushr hx hb dX_size_3 rfl ?_
  refine lv_l2i hx hb dX_size_4 rfl ?_
  refine lv_bipush (v := (63 : Int32)) hx hb dX_size_5 (by decide) ?_
  refine lv_iand hx hb dX_size_7 ?_
  exact g_iretP X hr hlk hfin dX_size_8
set_option maxHeartbeats 4000000 in
set_option maxRecDepth 100000 in
theorem cx_left (l : Launch) (a0 : Int64) : gPi l yX_left wX_left (rmF 0 0) [.long a0] (x_left a0) := by
  obtain ⟨z, hz⟩ : ∃ z, z = x_left a0 := ⟨_, rfl⟩
  rw [← hz]
  have hfin := hz.symm
  clear hz
  refine g_start (plainFor_of_name (by decide)) (Nat.le_of_ble_eq_true rfl) ?_
  intro p e s0 m args below meth c ls X hr hlk hB hl
  have hl : lv_has ls 2 [(0, .long a0)] := hl
  have hx := X.1
  have hb := X.2.1
  rw [x_left] at hfin
  refine lv_lload_n hx hb dX_left_0 rfl (lv_at hl 0 rfl) ?_
  refine lv_bipush (v := (18 : Int32)) hx hb dX_left_1 (by decide) ?_
  refine lv_lushr hx hb dX_left_3 rfl ?_
  refine lv_l2i hx hb dX_left_4 rfl ?_
  refine lv_ldc hx hb X.2.2.2.1 (X.2.2.2.2 _ hkX_41) dX_left_5 ?_
  refine lv_iand hx hb dX_left_7 ?_
  exact g_iretP X hr hlk hfin dX_left_8
set_option maxHeartbeats 4000000 in
set_option maxRecDepth 100000 in
theorem cx_joined (l : Launch) (a0 : Int32) (a1 : Int32) : gPl l yX_joined wX_joined (rmF 0 0) [.int a0, .int a1] (x_joined a0 a1) := by
  obtain ⟨z, hz⟩ : ∃ z, z = x_joined a0 a1 := ⟨_, rfl⟩
  rw [← hz]
  have hfin := hz.symm
  clear hz
  refine g_start (plainFor_of_name (by decide)) (Nat.le_of_ble_eq_true rfl) ?_
  intro p e s0 m args below meth c ls X hr hlk hB hl
  have hl : lv_has ls 2 [(0, .int a0), (1, .int a1)] := hl
  have hx := X.1
  have hb := X.2.1
  rw [x_joined] at hfin
  refine lv_iload_n hx hb dX_joined_0 rfl (lv_at hl 0 rfl) ?_
  refine lv_i2l hx hb dX_joined_1 rfl ?_
  refine lv_bipush (v := (18 : Int32)) hx hb dX_joined_2 (by decide) ?_
  refine lv_lshl hx hb dX_joined_4 rfl ?_
  refine lv_iload_n hx hb dX_joined_5 rfl (lv_at hl 1 rfl) ?_
  refine lv_i2l hx hb dX_joined_6 rfl ?_
  refine lv_lor hx hb dX_joined_7 ?_
  exact g_lretP X hr hlk hfin dX_joined_8
set_option maxHeartbeats 4000000 in
set_option maxRecDepth 100000 in
theorem cx_write (l : Launch) (D : va_G) (cA : ClassId) (o q : Nat) (hne : va_nd [o, q] = true) (u : XS) (a0 : Int32) (a1 : Int64) (z : XS) (hfin : x_write u a0 a1 = some z) : gMv l yX_write wX_write (rmF 1 22) D [(cA, .long)] (XW cA o q) (XA o q) [.ref o, .int a0, .long a1] u z := by
  refine g_start (plainFor_of_name (by decide)) (Nat.le_of_ble_eq_true rfl) ?_
  intro p e s0 m args below meth c ls X hr hlk hB hl
  obtain ⟨hP0, hK⟩ := hB
  have hI : gI D (XW cA o q) (XA o q) s0.heap s0.heap [] u := ⟨hP0, va_S.rf⟩
  have hl : lv_has ls 5 [(0, .ref o), (1, .int a0), (2, .long a1)] := hl
  have hx := X.1
  have hb := X.2.1
  rw [x_write] at hfin
  refine lv_aload_n hx hb dX_write_0 rfl (lv_at hl 0 rfl) ?_
  refine lv_iload_n hx hb dX_write_1 rfl (lv_at hl 1 rfl) ?_
  refine g_callRi [.int a0] [] X hK x_rcv hI.1 (cx_placeOf l D cA o q u a0) (cwX_X_placeOf X.2.2.2.2 ⟨Nat.le_of_ble_eq_true rfl, Nat.le_of_ble_eq_true rfl⟩) rfl hl.1 rfl (Nat.le_of_ble_eq_true rfl) dX_write_2 ?_
  refine lv_topi (fun x5 e5 => ?_)
  replace hfin := nm_at hfin e5
  refine lv_istore (lv' := [(4, .int x5), (0, .ref o), (1, .int a0), (2, .long a1)]) hx hb dX_write_5 hl (by decide) rfl (fun ls hl => ?_)
  refine lv_iload hx hb dX_write_7 (lv_at hl 0 rfl) ?_
  refine g_callPi [.int x5] [] X (cx_isPlace l x5) (cwX_X_isPlace X.2.2.2.2 ⟨Nat.le_of_ble_eq_true rfl, Nat.le_of_ble_eq_true rfl⟩) rfl hl.1 rfl (Nat.le_of_ble_eq_true rfl) dX_write_9 ?_
  refine lv_if_ne (tgt := 23) hx hb dX_write_12 (by decide) (fun hc12 => ?_) (fun hc12 => ?_)
  · rw [if_neg hc12] at hfin
    refine lv_aload_n hx hb dX_write_23 rfl (lv_at hl 1 rfl) ?_
    refine xg_trap X hK hI.1 dX_write_24 ?_
    refine lv_if_ne (tgt := 38) hx hb dX_write_27 (by decide) (fun hc27 => ?_) (fun hc27 => ?_)
    · rw [if_neg hc27] at hfin
      exact g_vret X hr hlk hK hI hfin dX_write_38
    rw [if_pos hc27] at hfin
    refine lv_aload_n hx hb dX_write_30 rfl (lv_at hl 1 rfl) ?_
    refine xg_words X hK hI.1 dX_write_31 ?_
    refine lv_iload hx hb dX_write_34 (lv_at hl 0 rfl) ?_
    refine lv_lload_n hx hb dX_write_36 rfl (lv_at hl 3 rfl) ?_
    obtain ⟨hd37, hfin⟩ := ck_if hfin
    refine xs_words X hK (x_D hne) hI hd37 dX_write_37 (fun H locs hI => ?_)
    exact g_vret X hr hlk hK hI hfin dX_write_38
  rw [if_pos hc12] at hfin
  refine lv_aload_n hx hb dX_write_15 rfl (lv_at hl 1 rfl) ?_
  refine lv_iconst (v := (1 : Int32)) hx hb dX_write_16 (by decide) ?_
  obtain ⟨z17, hz17, hfin⟩ := bd_ob hfin
  refine g_callMv [.int (1 : Int32)] [] X hK x_rcv hI (cx_raise l D cA o q hne u (1 : Int32) z17 hz17) (cwX_X_raise X.2.2.2.2 ⟨Nat.le_of_ble_eq_true rfl, Nat.le_of_ble_eq_true rfl⟩) rfl hl.1 rfl (Nat.le_of_ble_eq_true rfl) dX_write_17 (fun H locs hI => ?_)
  refine lv_goto (tgt := 38) hx hb dX_write_20 (by decide) ?_
  exact g_vret X hr hlk hK hI hfin dX_write_38
set_option maxHeartbeats 4000000 in
set_option maxRecDepth 100000 in
theorem cx_advancePointer (l : Launch) (D : va_G) (cA : ClassId) (o q : Nat) (hne : va_nd [o, q] = true) (u : XS) (a0 : Int32) (z : XS) (hfin : x_advancePointer u a0 = some z) : gMv l yX_advancePointer wX_advancePointer (rmF 2 46) D [(cA, .long)] (XW cA o q) (XA o q) [.ref o, .int a0] u z := by
  refine g_start (plainFor_of_name (by decide)) (Nat.le_of_ble_eq_true rfl) ?_
  intro p e s0 m args below meth c ls X hr hlk hB hl
  obtain ⟨hP0, hK⟩ := hB
  have hI : gI D (XW cA o q) (XA o q) s0.heap s0.heap [] u := ⟨hP0, va_S.rf⟩
  have hl : lv_has ls 7 [(0, .ref o), (1, .int a0)] := hl
  have hx := X.1
  have hb := X.2.1
  have B_50 : ∀ (u : XS) (v2 : Int64) (v4 : Int32) (v5 : Int32) (H : Heap) (locs : List Loc) (ls : Array Slot), lv_has ls 7 [(0, .ref o), (1, .int a0), (2, .long v2), (4, .int v4), (5, .int v5)] → gI D (XW cA o q) (XA o q) s0.heap H locs u → x_advancePointer_50 a0 u v2 v4 v5 = some z → W p l e (rmF 2 46) s0 m args below meth c H locs 0 0 (MQ below (va_Qv (fun x => x = z) (gB D [(cA, .long)] (XW cA o q)) (XA o q)) args s0 0 0 (XA o q)) (F0 m 50 ls []) := by
    intro u v2 v4 v5 H locs ls hl hI hfin
    rw [x_advancePointer_50] at hfin
    refine lv_lload_n hx hb dX_advancePointer_50 rfl (lv_at hl 2 rfl) ?_
    refine g_callPi [.long v2] [] X (cx_left l v2) (cwX_X_left X.2.2.2.2 ⟨Nat.le_of_ble_eq_true rfl, Nat.le_of_ble_eq_true rfl⟩) rfl hl.1 rfl (Nat.le_of_ble_eq_true rfl) dX_advancePointer_51 ?_
    refine lv_sipush (v := (4095 : Int32)) hx hb dX_advancePointer_54 (by decide) ?_
    refine lv_iand hx hb dX_advancePointer_57 ?_
    refine lv_topi (fun x58 e58 => ?_)
    replace hfin := nm_at hfin e58
    refine lv_istore (lv' := [(6, .int x58), (0, .ref o), (1, .int a0), (2, .long v2), (4, .int v4), (5, .int v5)]) hx hb dX_advancePointer_58 hl (by decide) rfl (fun ls hl => ?_)
    refine lv_aload_n hx hb dX_advancePointer_60 rfl (lv_at hl 1 rfl) ?_
    refine lv_iload_n hx hb dX_advancePointer_61 rfl (lv_at hl 2 rfl) ?_
    refine lv_iload hx hb dX_advancePointer_62 (lv_at hl 4 rfl) ?_
    refine lv_bipush (v := (12 : Int32)) hx hb dX_advancePointer_64 (by decide) ?_
    refine lv_ishl hx hb dX_advancePointer_66 ?_
    refine lv_iload hx hb dX_advancePointer_67 (lv_at hl 0 rfl) ?_
    refine lv_ior hx hb dX_advancePointer_69 ?_
    refine lv_iload hx hb dX_advancePointer_70 (lv_at hl 5 rfl) ?_
    refine g_callPl [.int ((v4 <<< ((12 : Int32) &&& 31)) ||| x58), .int v5] [.int a0, .ref o] X (cx_joined l ((v4 <<< ((12 : Int32) &&& 31)) ||| x58) v5) (cwX_X_joined X.2.2.2.2 ⟨Nat.le_of_ble_eq_true rfl, Nat.le_of_ble_eq_true rfl⟩) rfl hl.1 rfl (Nat.le_of_ble_eq_true rfl) dX_advancePointer_72 ?_
    obtain ⟨z75, hz75, hfin⟩ := bd_ob hfin
    refine g_callMv [.int a0, .long (x_joined ((v4 <<< ((12 : Int32) &&& 31)) ||| x58) v5)] [] X hK x_rcv hI (cx_write l D cA o q hne u a0 (x_joined ((v4 <<< ((12 : Int32) &&& 31)) ||| x58) v5) z75 hz75) (cwX_X_write X.2.2.2.2 ⟨Nat.le_of_ble_eq_true rfl, Nat.le_of_ble_eq_true rfl⟩) rfl hl.1 rfl (Nat.le_of_ble_eq_true rfl) dX_advancePointer_75 (fun H locs hI => ?_)
    exact g_vret X hr hlk hK hI hfin dX_advancePointer_78
  rw [x_advancePointer] at hfin
  refine lv_aload_n hx hb dX_advancePointer_0 rfl (lv_at hl 0 rfl) ?_
  refine lv_iload_n hx hb dX_advancePointer_1 rfl (lv_at hl 1 rfl) ?_
  obtain ⟨z2, hz2, hfin⟩ := bd_ob hfin
  refine g_callMl [.int a0] [] X hK x_rcv hI (cx_read l D cA o q hne u a0 z2 hz2) (cwX_X_read X.2.2.2.2 ⟨Nat.le_of_ble_eq_true rfl, Nat.le_of_ble_eq_true rfl⟩) rfl hl.1 rfl (Nat.le_of_ble_eq_true rfl) dX_advancePointer_2 (fun H locs hI => ?_)
  refine lv_lstore_n (lv' := [(2, .long z2.1), (0, .ref o), (1, .int a0)]) hx hb dX_advancePointer_5 rfl hl (by decide) rfl (fun ls hl => ?_)
  refine lv_lload_n hx hb dX_advancePointer_6 rfl (lv_at hl 0 rfl) ?_
  refine g_callPi [.long z2.1] [] X (cx_position l z2.1) (cwX_X_position X.2.2.2.2 ⟨Nat.le_of_ble_eq_true rfl, Nat.le_of_ble_eq_true rfl⟩) rfl hl.1 rfl (Nat.le_of_ble_eq_true rfl) dX_advancePointer_7 ?_
  refine lv_lload_n hx hb dX_advancePointer_10 rfl (lv_at hl 0 rfl) ?_
  refine g_callPi [.long z2.1] [.int (x_position z2.1)] X (cx_size l z2.1) (cwX_X_size X.2.2.2.2 ⟨Nat.le_of_ble_eq_true rfl, Nat.le_of_ble_eq_true rfl⟩) rfl hl.1 rfl (Nat.le_of_ble_eq_true rfl) dX_advancePointer_11 ?_
  refine lv_isub hx hb dX_advancePointer_14 ?_
  refine lv_topi (fun x15 e15 => ?_)
  replace hfin := nm_at hfin e15
  refine lv_istore (lv' := [(4, .int x15), (2, .long z2.1), (0, .ref o), (1, .int a0)]) hx hb dX_advancePointer_15 hl (by decide) rfl (fun ls hl => ?_)
  refine lv_lload_n hx hb dX_advancePointer_17 rfl (lv_at hl 1 rfl) ?_
  refine g_callPi [.long z2.1] [] X (cx_right l z2.1) (cwX_X_right X.2.2.2.2 ⟨Nat.le_of_ble_eq_true rfl, Nat.le_of_ble_eq_true rfl⟩) rfl hl.1 rfl (Nat.le_of_ble_eq_true rfl) dX_advancePointer_18 ?_
  refine lv_topi (fun x21 e21 => ?_)
  replace hfin := nm_at hfin e21
  refine lv_istore (lv' := [(5, .int x21), (4, .int x15), (2, .long z2.1), (0, .ref o), (1, .int a0)]) hx hb dX_advancePointer_21 hl (by decide) rfl (fun ls hl => ?_)
  refine lv_iload hx hb dX_advancePointer_23 (lv_at hl 1 rfl) ?_
  refine lv_if_ge (tgt := 50) hx hb dX_advancePointer_25 (by decide) (fun hc25 => ?_) (fun hc25 => ?_)
  · rw [if_pos hc25] at hfin
    exact B_50 z2.2 z2.1 x15 x21 H locs ls (lv_sub hl [3, 4, 2, 1, 0] rfl) hI hfin
  rw [if_neg hc25] at hfin
  refine lv_iload hx hb dX_advancePointer_28 (lv_at hl 0 rfl) ?_
  refine lv_iconst (v := (1 : Int32)) hx hb dX_advancePointer_30 (by decide) ?_
  refine lv_iadd hx hb dX_advancePointer_31 ?_
  refine g_callPi [.int (x21 + (1 : Int32))] [] X (cx_wrapped l (x21 + (1 : Int32))) (cwX_X_wrapped X.2.2.2.2 ⟨Nat.le_of_ble_eq_true rfl, Nat.le_of_ble_eq_true rfl⟩) rfl hl.1 rfl (Nat.le_of_ble_eq_true rfl) dX_advancePointer_32 ?_
  refine lv_topi (fun x35 e35 => ?_)
  replace hfin := nm_at hfin e35
  refine lv_istore (lv' := [(5, .int x35), (4, .int x15), (2, .long z2.1), (0, .ref o), (1, .int a0)]) hx hb dX_advancePointer_35 hl (by decide) rfl (fun ls hl => ?_)
  refine lv_bipush (v := (36 : Int32)) hx hb dX_advancePointer_37 (by decide) ?_
  refine lv_lload_n hx hb dX_advancePointer_39 rfl (lv_at hl 2 rfl) ?_
  refine g_callPi [.long z2.1] [.int (36 : Int32)] X (cx_size l z2.1) (cwX_X_size X.2.2.2.2 ⟨Nat.le_of_ble_eq_true rfl, Nat.le_of_ble_eq_true rfl⟩) rfl hl.1 rfl (Nat.le_of_ble_eq_true rfl) dX_advancePointer_40 ?_
  refine lv_isub hx hb dX_advancePointer_43 ?_
  refine lv_iconst (v := (0 : Int32)) hx hb dX_advancePointer_44 (by decide) ?_
  refine g_callPi [.int ((36 : Int32) - (x_size z2.1)), .int (0 : Int32)] [] X (cj_max l ((36 : Int32) - (x_size z2.1)) (0 : Int32)) (cwX_J_max X.2.2.2.2 ⟨Nat.le_of_ble_eq_true rfl, Nat.le_of_ble_eq_true rfl⟩) rfl hl.1 rfl (Nat.le_of_ble_eq_true rfl) dX_advancePointer_45 ?_
  refine lv_topi (fun x48 e48 => ?_)
  replace hfin := nm_at hfin e48
  refine lv_istore (lv' := [(4, .int x48), (5, .int x35), (2, .long z2.1), (0, .ref o), (1, .int a0)]) hx hb dX_advancePointer_48 hl (by decide) rfl (fun ls hl => ?_)
  exact B_50 z2.2 z2.1 x48 x35 H locs ls (lv_sub hl [3, 4, 2, 0, 1] rfl) hI hfin
set_option maxHeartbeats 4000000 in
set_option maxRecDepth 100000 in
theorem cx_byteMask (l : Launch) (a0 : Int64) : gPl l yX_byteMask wX_byteMask (rmF 1 21) [.long a0] (x_byteMask a0) := by
  obtain ⟨z, hz⟩ : ∃ z, z = x_byteMask a0 := ⟨_, rfl⟩
  rw [← hz]
  have hfin := hz.symm
  clear hz
  refine g_start (plainFor_of_name (by decide)) (Nat.le_of_ble_eq_true rfl) ?_
  intro p e s0 m args below meth c ls X hr hlk hB hl
  have hl : lv_has ls 2 [(0, .long a0)] := hl
  have hx := X.1
  have hb := X.2.1
  rw [x_byteMask] at hfin
  refine lv_lconst (v := (1 : Int64)) hx hb dX_byteMask_0 (by decide) ?_
  refine lv_lload_n hx hb dX_byteMask_1 rfl (lv_at hl 0 rfl) ?_
  refine g_callPi [.long a0] [.long (1 : Int64)] X (cx_size l a0) (cwX_X_size X.2.2.2.2 ⟨Nat.le_of_ble_eq_true rfl, Nat.le_of_ble_eq_true rfl⟩) rfl hl.1 rfl (Nat.le_of_ble_eq_true rfl) dX_byteMask_2 ?_
  refine lv_bipush (v := (36 : Int32)) hx hb dX_byteMask_5 (by decide) ?_
  refine g_callPi [.int (x_size a0), .int (36 : Int32)] [.long (1 : Int64)] X (cj_min l (x_size a0) (36 : Int32)) (cwX_J_min X.2.2.2.2 ⟨Nat.le_of_ble_eq_true rfl, Nat.le_of_ble_eq_true rfl⟩) rfl hl.1 rfl (Nat.le_of_ble_eq_true rfl) dX_byteMask_7 ?_
  refine lv_lshl hx hb dX_byteMask_10 rfl ?_
  refine lv_lconst (v := (1 : Int64)) hx hb dX_byteMask_11 (by decide) ?_
  refine lv_lsub hx hb dX_byteMask_12 ?_
  exact g_lretP X hr hlk hfin dX_byteMask_13
set_option maxHeartbeats 4000000 in
set_option maxRecDepth 100000 in
theorem cx_setAccumulator (l : Launch) (D : va_G) (cA : ClassId) (o q : Nat) (hne : va_nd [o, q] = true) (u : XS) (a0 : Int32) (a1 : Int64) (z : XS) (hfin : x_setAccumulator u a0 a1 = some z) : gMv l yX_setAccumulator wX_setAccumulator (rmF 0 0) D [(cA, .long)] (XW cA o q) (XA o q) [.ref o, .int a0, .long a1] u z := by
  refine g_start (plainFor_of_name (by decide)) (Nat.le_of_ble_eq_true rfl) ?_
  intro p e s0 m args below meth c ls X hr hlk hB hl
  obtain ⟨hP0, hK⟩ := hB
  have hI : gI D (XW cA o q) (XA o q) s0.heap s0.heap [] u := ⟨hP0, va_S.rf⟩
  have hl : lv_has ls 4 [(0, .ref o), (1, .int a0), (2, .long a1)] := hl
  have hx := X.1
  have hb := X.2.1
  rw [x_setAccumulator] at hfin
  refine lv_aload_n hx hb dX_setAccumulator_0 rfl (lv_at hl 0 rfl) ?_
  refine xg_trap X hK hI.1 dX_setAccumulator_1 ?_
  refine lv_if_ne (tgt := 14) hx hb dX_setAccumulator_4 (by decide) (fun hc4 => ?_) (fun hc4 => ?_)
  · rw [if_neg hc4] at hfin
    exact g_vret X hr hlk hK hI hfin dX_setAccumulator_14
  rw [if_pos hc4] at hfin
  refine lv_aload_n hx hb dX_setAccumulator_7 rfl (lv_at hl 0 rfl) ?_
  refine xg_words X hK hI.1 dX_setAccumulator_8 ?_
  refine lv_iload_n hx hb dX_setAccumulator_11 rfl (lv_at hl 1 rfl) ?_
  refine lv_lload_n hx hb dX_setAccumulator_12 rfl (lv_at hl 2 rfl) ?_
  obtain ⟨hd13, hfin⟩ := ck_if hfin
  refine xs_words X hK (x_D hne) hI hd13 dX_setAccumulator_13 (fun H locs hI => ?_)
  exact g_vret X hr hlk hK hI hfin dX_setAccumulator_14
set_option maxHeartbeats 4000000 in
set_option maxRecDepth 100000 in
theorem cx_loadByte (l : Launch) (D : va_G) (cA : ClassId) (o q : Nat) (hne : va_nd [o, q] = true) (u : XS) (a0 : Int32) (a1 : Int64) (a2 : Int32) (z : XS) (hfin : x_loadByte u a0 a1 a2 = some z) : gMv l yX_loadByte wX_loadByte (rmF 2 44) D [(cA, .long)] (XW cA o q) (XA o q) [.ref o, .int a0, .long a1, .int a2] u z := by
  refine g_start (plainFor_of_name (by decide)) (Nat.le_of_ble_eq_true rfl) ?_
  intro p e s0 m args below meth c ls X hr hlk hB hl
  obtain ⟨hP0, hK⟩ := hB
  have hI : gI D (XW cA o q) (XA o q) s0.heap s0.heap [] u := ⟨hP0, va_S.rf⟩
  have hl : lv_has ls 7 [(0, .ref o), (1, .int a0), (2, .long a1), (4, .int a2)] := hl
  have hx := X.1
  have hb := X.2.1
  rw [x_loadByte] at hfin
  refine lv_aload_n hx hb dX_loadByte_0 rfl (lv_at hl 0 rfl) ?_
  refine lv_iload hx hb dX_loadByte_1 (lv_at hl 3 rfl) ?_
  obtain ⟨z3, hz3, hfin⟩ := bd_ob hfin
  refine g_callMl [.int a2] [] X hK x_rcv hI (cx_read l D cA o q hne u a2 z3 hz3) (cwX_X_read X.2.2.2.2 ⟨Nat.le_of_ble_eq_true rfl, Nat.le_of_ble_eq_true rfl⟩) rfl hl.1 rfl (Nat.le_of_ble_eq_true rfl) dX_loadByte_3 (fun H locs hI => ?_)
  refine lv_lstore (lv' := [(5, .long z3.1), (0, .ref o), (1, .int a0), (2, .long a1), (4, .int a2)]) hx hb dX_loadByte_6 hl (by decide) rfl (fun ls hl => ?_)
  refine lv_aload_n hx hb dX_loadByte_8 rfl (lv_at hl 1 rfl) ?_
  refine lv_iload_n hx hb dX_loadByte_9 rfl (lv_at hl 2 rfl) ?_
  refine lv_lload hx hb dX_loadByte_10 (lv_at hl 0 rfl) ?_
  refine lv_lload_n hx hb dX_loadByte_12 rfl (lv_at hl 3 rfl) ?_
  refine g_callPi [.long a1] [.long z3.1, .int a0, .ref o] X (cx_position l a1) (cwX_X_position X.2.2.2.2 ⟨Nat.le_of_ble_eq_true rfl, Nat.le_of_ble_eq_true rfl⟩) rfl hl.1 rfl (Nat.le_of_ble_eq_true rfl) dX_loadByte_13 ?_
  refine lv_lushr hx hb dX_loadByte_16 rfl ?_
  refine lv_lload_n hx hb dX_loadByte_17 rfl (lv_at hl 3 rfl) ?_
  refine g_callPl [.long a1] [.long ((z3.1.toUInt64 >>> ((x_position a1).toInt64.toUInt64 &&& Int64.toUInt64 63)).toInt64), .int a0, .ref o] X (cx_byteMask l a1) (cwX_X_byteMask X.2.2.2.2 ⟨Nat.le_of_ble_eq_true rfl, Nat.le_of_ble_eq_true rfl⟩) rfl hl.1 rfl (Nat.le_of_ble_eq_true rfl) dX_loadByte_18 ?_
  refine lv_land hx hb dX_loadByte_21 ?_
  obtain ⟨z22, hz22, hfin⟩ := bd_ob hfin
  refine g_callMv [.int a0, .long (((z3.1.toUInt64 >>> ((x_position a1).toInt64.toUInt64 &&& Int64.toUInt64 63)).toInt64) &&& (x_byteMask a1))] [] X hK x_rcv hI (cx_setAccumulator l D cA o q hne z3.2 a0 (((z3.1.toUInt64 >>> ((x_position a1).toInt64.toUInt64 &&& Int64.toUInt64 63)).toInt64) &&& (x_byteMask a1)) z22 hz22) (cwX_X_setAccumulator X.2.2.2.2 ⟨Nat.le_of_ble_eq_true rfl, Nat.le_of_ble_eq_true rfl⟩) rfl hl.1 rfl (Nat.le_of_ble_eq_true rfl) dX_loadByte_22 (fun H locs hI => ?_)
  exact g_vret X hr hlk hK hI hfin dX_loadByte_25
set_option maxHeartbeats 4000000 in
set_option maxRecDepth 100000 in
theorem cx_depositByte (l : Launch) (D : va_G) (cA : ClassId) (o q : Nat) (hne : va_nd [o, q] = true) (u : XS) (a0 : Int32) (a1 : Int64) (a2 : Int32) (z : XS) (hfin : x_depositByte u a0 a1 a2 = some z) : gMv l yX_depositByte wX_depositByte (rmF 2 46) D [(cA, .long)] (XW cA o q) (XA o q) [.ref o, .int a0, .long a1, .int a2] u z := by
  refine g_start (plainFor_of_name (by decide)) (Nat.le_of_ble_eq_true rfl) ?_
  intro p e s0 m args below meth c ls X hr hlk hB hl
  obtain ⟨hP0, hK⟩ := hB
  have hI : gI D (XW cA o q) (XA o q) s0.heap s0.heap [] u := ⟨hP0, va_S.rf⟩
  have hl : lv_has ls 9 [(0, .ref o), (1, .int a0), (2, .long a1), (4, .int a2)] := hl
  have hx := X.1
  have hb := X.2.1
  rw [x_depositByte] at hfin
  refine lv_aload_n hx hb dX_depositByte_0 rfl (lv_at hl 0 rfl) ?_
  refine lv_iload hx hb dX_depositByte_1 (lv_at hl 3 rfl) ?_
  obtain ⟨z3, hz3, hfin⟩ := bd_ob hfin
  refine g_callMl [.int a2] [] X hK x_rcv hI (cx_read l D cA o q hne u a2 z3 hz3) (cwX_X_read X.2.2.2.2 ⟨Nat.le_of_ble_eq_true rfl, Nat.le_of_ble_eq_true rfl⟩) rfl hl.1 rfl (Nat.le_of_ble_eq_true rfl) dX_depositByte_3 (fun H locs hI => ?_)
  refine lv_lstore (lv' := [(5, .long z3.1), (0, .ref o), (1, .int a0), (2, .long a1), (4, .int a2)]) hx hb dX_depositByte_6 hl (by decide) rfl (fun ls hl => ?_)
  refine lv_lload_n hx hb dX_depositByte_8 rfl (lv_at hl 3 rfl) ?_
  refine g_callPl [.long a1] [] X (cx_byteMask l a1) (cwX_X_byteMask X.2.2.2.2 ⟨Nat.le_of_ble_eq_true rfl, Nat.le_of_ble_eq_true rfl⟩) rfl hl.1 rfl (Nat.le_of_ble_eq_true rfl) dX_depositByte_9 ?_
  refine lv_lload_n hx hb dX_depositByte_12 rfl (lv_at hl 3 rfl) ?_
  refine g_callPi [.long a1] [.long (x_byteMask a1)] X (cx_position l a1) (cwX_X_position X.2.2.2.2 ⟨Nat.le_of_ble_eq_true rfl, Nat.le_of_ble_eq_true rfl⟩) rfl hl.1 rfl (Nat.le_of_ble_eq_true rfl) dX_depositByte_13 ?_
  refine lv_lshl hx hb dX_depositByte_16 rfl ?_
  refine lv_ldc2 hx hb X.2.2.2.1 (X.2.2.2.2 _ hkX_17) dX_depositByte_17 ?_
  refine lv_land hx hb dX_depositByte_20 ?_
  refine lv_topl (fun x21 e21 => ?_)
  replace hfin := nm_at hfin e21
  refine lv_lstore (lv' := [(7, .long x21), (5, .long z3.1), (0, .ref o), (1, .int a0), (2, .long a1), (4, .int a2)]) hx hb dX_depositByte_21 hl (by decide) rfl (fun ls hl => ?_)
  refine lv_aload_n hx hb dX_depositByte_23 rfl (lv_at hl 2 rfl) ?_
  refine lv_iload hx hb dX_depositByte_24 (lv_at hl 5 rfl) ?_
  refine lv_lload hx hb dX_depositByte_26 (lv_at hl 1 rfl) ?_
  refine lv_lload hx hb dX_depositByte_28 (lv_at hl 0 rfl) ?_
  refine lv_ldc2 hx hb X.2.2.2.1 (X.2.2.2.2 _ hkX_19) dX_depositByte_30 ?_
  refine lv_lxor hx hb dX_depositByte_33 ?_
  refine lv_land hx hb dX_depositByte_34 ?_
  refine lv_aload_n hx hb dX_depositByte_35 rfl (lv_at hl 2 rfl) ?_
  refine xg_words X hK hI.1 dX_depositByte_36 ?_
  refine lv_iload_n hx hb dX_depositByte_39 rfl (lv_at hl 3 rfl) ?_
  obtain ⟨hd40, hfin⟩ := ck_if hfin
  refine xl_words X hK hI.1 hd40 dX_depositByte_40 ?_
  refine lv_lload_n hx hb dX_depositByte_41 rfl (lv_at hl 4 rfl) ?_
  refine g_callPi [.long a1] [.long (X_words z3.2 a0.toNatClampNeg), .long (z3.1 &&& (x21 ^^^ (-1 : Int64))), .int a2, .ref o] X (cx_position l a1) (cwX_X_position X.2.2.2.2 ⟨Nat.le_of_ble_eq_true rfl, Nat.le_of_ble_eq_true rfl⟩) rfl hl.1 rfl (Nat.le_of_ble_eq_true rfl) dX_depositByte_42 ?_
  refine lv_lshl hx hb dX_depositByte_45 rfl ?_
  refine lv_lload hx hb dX_depositByte_46 (lv_at hl 0 rfl) ?_
  refine lv_land hx hb dX_depositByte_48 ?_
  refine lv_lor hx hb dX_depositByte_49 ?_
  obtain ⟨z50, hz50, hfin⟩ := bd_ob hfin
  refine g_callMv [.int a2, .long ((z3.1 &&& (x21 ^^^ (-1 : Int64))) ||| (((X_words z3.2 a0.toNatClampNeg) <<< ((x_position a1).toInt64 &&& 63)) &&& x21))] [] X hK x_rcv hI (cx_write l D cA o q hne z3.2 a2 ((z3.1 &&& (x21 ^^^ (-1 : Int64))) ||| (((X_words z3.2 a0.toNatClampNeg) <<< ((x_position a1).toInt64 &&& 63)) &&& x21)) z50 hz50) (cwX_X_write X.2.2.2.2 ⟨Nat.le_of_ble_eq_true rfl, Nat.le_of_ble_eq_true rfl⟩) rfl hl.1 rfl (Nat.le_of_ble_eq_true rfl) dX_depositByte_50 (fun H locs hI => ?_)
  exact g_vret X hr hlk hK hI hfin dX_depositByte_53
set_option maxHeartbeats 4000000 in
set_option maxRecDepth 100000 in
theorem cx_bytes (l : Launch) (D : va_G) (cA : ClassId) (o q : Nat) (hne : va_nd [o, q] = true) (u : XS) (a0 : Int32) (a1 : Int32) (a2 : Int32) (z : XS) (hfin : x_bytes u a0 a1 a2 = some z) : gMv l yX_bytes wX_bytes (rmF 4 91) D [(cA, .long)] (XW cA o q) (XA o q) [.ref o, .int a0, .int a1, .int a2] u z := by
  refine g_start (plainFor_of_name (by decide)) (Nat.le_of_ble_eq_true rfl) ?_
  intro p e s0 m args below meth c ls X hr hlk hB hl
  obtain ⟨hP0, hK⟩ := hB
  have hI : gI D (XW cA o q) (XA o q) s0.heap s0.heap [] u := ⟨hP0, va_S.rf⟩
  have hl : lv_has ls 7 [(0, .ref o), (1, .int a0), (2, .int a1), (3, .int a2)] := hl
  have hx := X.1
  have hb := X.2.1
  have B_69 : ∀ (u : XS) (v4 : Int64) (v6 : Int32) (H : Heap) (locs : List Loc) (ls : Array Slot), lv_has ls 7 [(0, .ref o), (1, .int a0), (2, .int a1), (3, .int a2), (4, .long v4), (6, .int v6)] → gI D (XW cA o q) (XA o q) s0.heap H locs u → x_bytes_69 a0 a1 a2 u v4 v6 = some z → W p l e (rmF 4 91) s0 m args below meth c H locs 0 0 (MQ below (va_Qv (fun x => x = z) (gB D [(cA, .long)] (XW cA o q)) (XA o q)) args s0 0 0 (XA o q)) (F0 m 69 ls []) := by
    intro u v4 v6 H locs ls hl hI hfin
    rw [x_bytes_69] at hfin
    refine lv_aload_n hx hb dX_bytes_69 rfl (lv_at hl 0 rfl) ?_
    refine lv_iload_n hx hb dX_bytes_70 rfl (lv_at hl 2 rfl) ?_
    refine lv_lload hx hb dX_bytes_71 (lv_at hl 4 rfl) ?_
    refine lv_iload hx hb dX_bytes_73 (lv_at hl 5 rfl) ?_
    obtain ⟨z75, hz75, hfin⟩ := bd_ob hfin
    refine g_callMv [.int a1, .long v4, .int v6] [] X hK x_rcv hI (cx_loadByte l D cA o q hne u a1 v4 v6 z75 hz75) (cwX_X_loadByte X.2.2.2.2 ⟨Nat.le_of_ble_eq_true rfl, Nat.le_of_ble_eq_true rfl⟩) rfl hl.1 rfl (Nat.le_of_ble_eq_true rfl) dX_bytes_75 (fun H locs hI => ?_)
    refine lv_goto (tgt := 90) hx hb dX_bytes_78 (by decide) ?_
    exact g_vret X hr hlk hK hI hfin dX_bytes_90
  have B_35 : ∀ (u : XS) (H : Heap) (locs : List Loc) (ls : Array Slot), lv_has ls 7 [(0, .ref o), (1, .int a0), (2, .int a1), (3, .int a2)] → gI D (XW cA o q) (XA o q) s0.heap H locs u → x_bytes_35 a0 a1 a2 u = some z → W p l e (rmF 4 91) s0 m args below meth c H locs 0 0 (MQ below (va_Qv (fun x => x = z) (gB D [(cA, .long)] (XW cA o q)) (XA o q)) args s0 0 0 (XA o q)) (F0 m 35 ls []) := by
    intro u H locs ls hl hI hfin
    rw [x_bytes_35] at hfin
    refine lv_iload_n hx hb dX_bytes_35 rfl (lv_at hl 1 rfl) ?_
    refine lv_bipush (v := (91 : Int32)) hx hb dX_bytes_36 (by decide) ?_
    refine lv_icmp_ne (tgt := 42) hx hb dX_bytes_38 (by decide) (fun hc38 => ?_) (fun hc38 => ?_)
    · rw [if_neg hc38] at hfin
      refine lv_aload_n hx hb dX_bytes_42 rfl (lv_at hl 0 rfl) ?_
      refine lv_iload_n hx hb dX_bytes_43 rfl (lv_at hl 3 rfl) ?_
      obtain ⟨z44, hz44, hfin⟩ := bd_ob hfin
      refine g_callMl [.int a2] [] X hK x_rcv hI (cx_read l D cA o q hne u a2 z44 hz44) (cwX_X_read X.2.2.2.2 ⟨Nat.le_of_ble_eq_true rfl, Nat.le_of_ble_eq_true rfl⟩) rfl hl.1 rfl (Nat.le_of_ble_eq_true rfl) dX_bytes_44 (fun H locs hI => ?_)
      refine lv_lstore (lv' := [(4, .long z44.1), (0, .ref o), (1, .int a0), (2, .int a1), (3, .int a2)]) hx hb dX_bytes_47 hl (by decide) rfl (fun ls hl => ?_)
      refine lv_aload_n hx hb dX_bytes_49 rfl (lv_at hl 1 rfl) ?_
      refine lv_lload hx hb dX_bytes_50 (lv_at hl 0 rfl) ?_
      obtain ⟨z52, hz52, hfin⟩ := bd_ob hfin
      refine g_callMi [.long z44.1] [] X hK x_rcv hI (cx_effective l D cA o q hne z44.2 z44.1 z52 hz52) (cwX_X_effective X.2.2.2.2 ⟨Nat.le_of_ble_eq_true rfl, Nat.le_of_ble_eq_true rfl⟩) rfl hl.1 rfl (Nat.le_of_ble_eq_true rfl) dX_bytes_52 (fun H locs hI => ?_)
      refine lv_istore (lv' := [(6, .int z52.1), (4, .long z44.1), (0, .ref o), (1, .int a0), (2, .int a1), (3, .int a2)]) hx hb dX_bytes_55 hl (by decide) rfl (fun ls hl => ?_)
      refine lv_iload_n hx hb dX_bytes_57 rfl (lv_at hl 3 rfl) ?_
      refine lv_bipush (v := (92 : Int32)) hx hb dX_bytes_58 (by decide) ?_
      refine lv_icmp_eq (tgt := 69) hx hb dX_bytes_60 (by decide) (fun hc60 => ?_) (fun hc60 => ?_)
      · rw [if_pos hc60] at hfin
        exact B_69 z52.2 z44.1 z52.1 H locs ls (lv_sub hl [2, 3, 4, 5, 1, 0] rfl) hI hfin
      rw [if_neg hc60] at hfin
      refine lv_iload_n hx hb dX_bytes_63 rfl (lv_at hl 3 rfl) ?_
      refine lv_bipush (v := (93 : Int32)) hx hb dX_bytes_64 (by decide) ?_
      refine lv_icmp_ne (tgt := 81) hx hb dX_bytes_66 (by decide) (fun hc66 => ?_) (fun hc66 => ?_)
      · rw [if_neg hc66] at hfin
        refine lv_aload_n hx hb dX_bytes_81 rfl (lv_at hl 2 rfl) ?_
        refine lv_iload_n hx hb dX_bytes_82 rfl (lv_at hl 4 rfl) ?_
        refine lv_lload hx hb dX_bytes_83 (lv_at hl 1 rfl) ?_
        refine lv_iload hx hb dX_bytes_85 (lv_at hl 0 rfl) ?_
        obtain ⟨z87, hz87, hfin⟩ := bd_ob hfin
        refine g_callMv [.int a1, .long z44.1, .int z52.1] [] X hK x_rcv hI (cx_depositByte l D cA o q hne z52.2 a1 z44.1 z52.1 z87 hz87) (cwX_X_depositByte X.2.2.2.2 ⟨Nat.le_of_ble_eq_true rfl, Nat.le_of_ble_eq_true rfl⟩) rfl hl.1 rfl (Nat.le_of_ble_eq_true rfl) dX_bytes_87 (fun H locs hI => ?_)
        exact g_vret X hr hlk hK hI hfin dX_bytes_90
      rw [if_pos hc66] at hfin
      exact B_69 z52.2 z44.1 z52.1 H locs ls (lv_sub hl [2, 3, 4, 5, 1, 0] rfl) hI hfin
    rw [if_pos hc38] at hfin
    exact g_vret X hr hlk hK hI hfin dX_bytes_41
  have B_30 : ∀ (u : XS) (H : Heap) (locs : List Loc) (ls : Array Slot), lv_has ls 7 [(0, .ref o), (1, .int a0), (2, .int a1), (3, .int a2)] → gI D (XW cA o q) (XA o q) s0.heap H locs u → x_bytes_30 a0 a1 a2 u = some z → W p l e (rmF 4 91) s0 m args below meth c H locs 0 0 (MQ below (va_Qv (fun x => x = z) (gB D [(cA, .long)] (XW cA o q)) (XA o q)) args s0 0 0 (XA o q)) (F0 m 30 ls []) := by
    intro u H locs ls hl hI hfin
    rw [x_bytes_30] at hfin
    refine lv_aload_n hx hb dX_bytes_30 rfl (lv_at hl 0 rfl) ?_
    refine lv_iload_n hx hb dX_bytes_31 rfl (lv_at hl 3 rfl) ?_
    obtain ⟨z32, hz32, hfin⟩ := bd_ob hfin
    refine g_callMv [.int a2] [] X hK x_rcv hI (cx_advancePointer l D cA o q hne u a2 z32 hz32) (cwX_X_advancePointer X.2.2.2.2 ⟨Nat.le_of_ble_eq_true rfl, Nat.le_of_ble_eq_true rfl⟩) rfl hl.1 rfl (Nat.le_of_ble_eq_true rfl) dX_bytes_32 (fun H locs hI => ?_)
    exact B_35 z32 H locs ls (lv_sub hl [0, 1, 2, 3] rfl) hI hfin
  rw [x_bytes] at hfin
  refine lv_iload_n hx hb dX_bytes_0 rfl (lv_at hl 1 rfl) ?_
  refine lv_bipush (v := (91 : Int32)) hx hb dX_bytes_1 (by decide) ?_
  refine lv_icmp_ge (tgt := 12) hx hb dX_bytes_3 (by decide) (fun hc3 => ?_) (fun hc3 => ?_)
  · rw [if_pos hc3] at hfin
    refine lv_iload_n hx hb dX_bytes_12 rfl (lv_at hl 1 rfl) ?_
    refine lv_bipush (v := (91 : Int32)) hx hb dX_bytes_13 (by decide) ?_
    refine lv_icmp_eq (tgt := 30) hx hb dX_bytes_15 (by decide) (fun hc15 => ?_) (fun hc15 => ?_)
    · rw [if_pos hc15] at hfin
      exact B_30 u s0.heap [] ls (lv_sub hl [0, 1, 2, 3] rfl) hI hfin
    rw [if_neg hc15] at hfin
    refine lv_iload_n hx hb dX_bytes_18 rfl (lv_at hl 1 rfl) ?_
    refine lv_bipush (v := (92 : Int32)) hx hb dX_bytes_19 (by decide) ?_
    refine lv_icmp_eq (tgt := 30) hx hb dX_bytes_21 (by decide) (fun hc21 => ?_) (fun hc21 => ?_)
    · rw [if_pos hc21] at hfin
      exact B_30 u s0.heap [] ls (lv_sub hl [0, 1, 2, 3] rfl) hI hfin
    rw [if_neg hc21] at hfin
    refine lv_iload_n hx hb dX_bytes_24 rfl (lv_at hl 1 rfl) ?_
    refine lv_bipush (v := (94 : Int32)) hx hb dX_bytes_25 (by decide) ?_
    refine lv_icmp_ne (tgt := 35) hx hb dX_bytes_27 (by decide) (fun hc27 => ?_) (fun hc27 => ?_)
    · rw [if_neg hc27] at hfin
      exact B_35 u s0.heap [] ls (lv_sub hl [0, 1, 2, 3] rfl) hI hfin
    rw [if_pos hc27] at hfin
    exact B_30 u s0.heap [] ls (lv_sub hl [0, 1, 2, 3] rfl) hI hfin
  rw [if_neg hc3] at hfin
  refine lv_aload_n hx hb dX_bytes_6 rfl (lv_at hl 0 rfl) ?_
  refine lv_iconst (v := (2 : Int32)) hx hb dX_bytes_7 (by decide) ?_
  obtain ⟨z8, hz8, hfin⟩ := bd_ob hfin
  refine g_callMv [.int (2 : Int32)] [] X hK x_rcv hI (cx_raise l D cA o q hne u (2 : Int32) z8 hz8) (cwX_X_raise X.2.2.2.2 ⟨Nat.le_of_ble_eq_true rfl, Nat.le_of_ble_eq_true rfl⟩) rfl hl.1 rfl (Nat.le_of_ble_eq_true rfl) dX_bytes_8 (fun H locs hI => ?_)
  exact g_vret X hr hlk hK hI hfin dX_bytes_11
set_option maxHeartbeats 4000000 in
set_option maxRecDepth 100000 in
theorem cx_source (l : Launch) (D : va_G) (cA : ClassId) (o q : Nat) (hne : va_nd [o, q] = true) (u : XS) (a0 : Int32) (a1 : Int32) (z : Int64 × XS) (hfin : x_source u a0 a1 = some z) : gMl l yX_source wX_source (rmF 2 44) D [(cA, .long)] (XW cA o q) (XA o q) [.ref o, .int a0, .int a1] u z := by
  refine g_start (plainFor_of_name (by decide)) (Nat.le_of_ble_eq_true rfl) ?_
  intro p e s0 m args below meth c ls X hr hlk hB hl
  obtain ⟨hP0, hK⟩ := hB
  have hI : gI D (XW cA o q) (XA o q) s0.heap s0.heap [] u := ⟨hP0, va_S.rf⟩
  have hl : lv_has ls 3 [(0, .ref o), (1, .int a0), (2, .int a1)] := hl
  have hx := X.1
  have hb := X.2.1
  rw [x_source] at hfin
  refine lv_iload_n hx hb dX_source_0 rfl (lv_at hl 1 rfl) ?_
  refine lv_iconst (v := (1 : Int32)) hx hb dX_source_1 (by decide) ?_
  refine lv_icmp_ne (tgt := 10) hx hb dX_source_2 (by decide) (fun hc2 => ?_) (fun hc2 => ?_)
  · rw [if_neg hc2] at hfin
    refine lv_aload_n hx hb dX_source_10 rfl (lv_at hl 0 rfl) ?_
    refine lv_iload_n hx hb dX_source_11 rfl (lv_at hl 2 rfl) ?_
    obtain ⟨z12, hz12, hfin⟩ := bd_ob hfin
    refine g_callMl [.int a1] [] X hK x_rcv hI (cx_read l D cA o q hne u a1 z12 hz12) (cwX_X_read X.2.2.2.2 ⟨Nat.le_of_ble_eq_true rfl, Nat.le_of_ble_eq_true rfl⟩) rfl hl.1 rfl (Nat.le_of_ble_eq_true rfl) dX_source_12 (fun H locs hI => ?_)
    exact g_lret X hr hlk hK hI hfin dX_source_15
  rw [if_pos hc2] at hfin
  refine lv_iload_n hx hb dX_source_5 rfl (lv_at hl 2 rfl) ?_
  refine lv_i2l hx hb dX_source_6 rfl ?_
  refine lv_goto (tgt := 15) hx hb dX_source_7 (by decide) ?_
  exact g_lret X hr hlk hK hI hfin dX_source_15
set_option maxHeartbeats 4000000 in
set_option maxRecDepth 100000 in
theorem cx_movedSource (l : Launch) (D : va_G) (cA : ClassId) (o q : Nat) (hne : va_nd [o, q] = true) (u : XS) (a0 : Int32) (a1 : Int32) (a2 : Int32) (z : Int64 × XS) (hfin : x_movedSource u a0 a1 a2 = some z) : gMl l yX_movedSource wX_movedSource (rmF 3 66) D [(cA, .long)] (XW cA o q) (XA o q) [.ref o, .int a0, .int a1, .int a2] u z := by
  refine g_start (plainFor_of_name (by decide)) (Nat.le_of_ble_eq_true rfl) ?_
  intro p e s0 m args below meth c ls X hr hlk hB hl
  obtain ⟨hP0, hK⟩ := hB
  have hI : gI D (XW cA o q) (XA o q) s0.heap s0.heap [] u := ⟨hP0, va_S.rf⟩
  have hl : lv_has ls 4 [(0, .ref o), (1, .int a0), (2, .int a1), (3, .int a2)] := hl
  have hx := X.1
  have hb := X.2.1
  rw [x_movedSource] at hfin
  refine lv_iload_n hx hb dX_movedSource_0 rfl (lv_at hl 1 rfl) ?_
  refine lv_iconst (v := (2 : Int32)) hx hb dX_movedSource_1 (by decide) ?_
  refine lv_icmp_ne (tgt := 14) hx hb dX_movedSource_2 (by decide) (fun hc2 => ?_) (fun hc2 => ?_)
  · rw [if_neg hc2] at hfin
    refine lv_aload_n hx hb dX_movedSource_14 rfl (lv_at hl 0 rfl) ?_
    refine lv_iload_n hx hb dX_movedSource_15 rfl (lv_at hl 1 rfl) ?_
    refine lv_iload_n hx hb dX_movedSource_16 rfl (lv_at hl 3 rfl) ?_
    obtain ⟨z17, hz17, hfin⟩ := bd_ob hfin
    refine g_callMl [.int a0, .int a2] [] X hK x_rcv hI (cx_source l D cA o q hne u a0 a2 z17 hz17) (cwX_X_source X.2.2.2.2 ⟨Nat.le_of_ble_eq_true rfl, Nat.le_of_ble_eq_true rfl⟩) rfl hl.1 rfl (Nat.le_of_ble_eq_true rfl) dX_movedSource_17 (fun H locs hI => ?_)
    exact g_lret X hr hlk hK hI hfin dX_movedSource_20
  rw [if_pos hc2] at hfin
  refine lv_aload_n hx hb dX_movedSource_5 rfl (lv_at hl 0 rfl) ?_
  refine xg_words X hK hI.1 dX_movedSource_6 ?_
  refine lv_iload_n hx hb dX_movedSource_9 rfl (lv_at hl 2 rfl) ?_
  obtain ⟨hd10, hfin⟩ := ck_if hfin
  refine xl_words X hK hI.1 hd10 dX_movedSource_10 ?_
  refine lv_goto (tgt := 20) hx hb dX_movedSource_11 (by decide) ?_
  exact g_lret X hr hlk hK hI hfin dX_movedSource_20
end
section
set_option maxHeartbeats 4000000 in
set_option maxRecDepth 100000 in
theorem cx_swapped (l : Launch) (a0 : Int64) : gPl l yX_swapped wX_swapped (rmF 1 21) [.long a0] (x_swapped a0) := by
  obtain ⟨z, hz⟩ : ∃ z, z = x_swapped a0 := ⟨_, rfl⟩
  rw [← hz]
  have hfin := hz.symm
  clear hz
  refine g_start (plainFor_of_name (by decide)) (Nat.le_of_ble_eq_true rfl) ?_
  intro p e s0 m args below meth c ls X hr hlk hB hl
  have hl : lv_has ls 2 [(0, .long a0)] := hl
  have hx := X.1
  have hb := X.2.1
  rw [x_swapped] at hfin
  refine lv_lload_n hx hb dX_swapped_0 rfl (lv_at hl 0 rfl) ?_
  refine g_callPi [.long a0] [] X (cx_right l a0) (cwX_X_right X.2.2.2.2 ⟨Nat.le_of_ble_eq_true rfl, Nat.le_of_ble_eq_true rfl⟩) rfl hl.1 rfl (Nat.le_of_ble_eq_true rfl) dX_swapped_1 ?_
  refine lv_lload_n hx hb dX_swapped_4 rfl (lv_at hl 0 rfl) ?_
  refine g_callPi [.long a0] [.int (x_right a0)] X (cx_left l a0) (cwX_X_left X.2.2.2.2 ⟨Nat.le_of_ble_eq_true rfl, Nat.le_of_ble_eq_true rfl⟩) rfl hl.1 rfl (Nat.le_of_ble_eq_true rfl) dX_swapped_5 ?_
  refine g_callPl [.int (x_right a0), .int (x_left a0)] [] X (cx_joined l (x_right a0) (x_left a0)) (cwX_X_joined X.2.2.2.2 ⟨Nat.le_of_ble_eq_true rfl, Nat.le_of_ble_eq_true rfl⟩) rfl hl.1 rfl (Nat.le_of_ble_eq_true rfl) dX_swapped_8 ?_
  exact g_lretP X hr hlk hfin dX_swapped_11
set_option maxHeartbeats 4000000 in
set_option maxRecDepth 100000 in
theorem cx_setOverflow (l : Launch) (D : va_G) (cA : ClassId) (o q : Nat) (hne : va_nd [o, q] = true) (u : XS)  (z : XS) (hfin : x_setOverflow u = some z) : gMv l yX_setOverflow wX_setOverflow (rmF 0 0) D [(cA, .long)] (XW cA o q) (XA o q) [.ref o] u z := by
  refine g_start (plainFor_of_name (by decide)) (Nat.le_of_ble_eq_true rfl) ?_
  intro p e s0 m args below meth c ls X hr hlk hB hl
  obtain ⟨hP0, hK⟩ := hB
  have hI : gI D (XW cA o q) (XA o q) s0.heap s0.heap [] u := ⟨hP0, va_S.rf⟩
  have hl : lv_has ls 1 [(0, .ref o)] := hl
  have hx := X.1
  have hb := X.2.1
  rw [x_setOverflow] at hfin
  refine lv_aload_n hx hb dX_setOverflow_0 rfl (lv_at hl 0 rfl) ?_
  refine xg_trap X hK hI.1 dX_setOverflow_1 ?_
  refine lv_if_ne (tgt := 12) hx hb dX_setOverflow_4 (by decide) (fun hc4 => ?_) (fun hc4 => ?_)
  · rw [if_neg hc4] at hfin
    exact g_vret X hr hlk hK hI hfin dX_setOverflow_12
  rw [if_pos hc4] at hfin
  refine lv_aload_n hx hb dX_setOverflow_7 rfl (lv_at hl 0 rfl) ?_
  refine lv_iconst (v := (1 : Int32)) hx hb dX_setOverflow_8 (by decide) ?_
  refine xp_overflow X hK (x_D hne) hI (Or.inr rfl) dX_setOverflow_9 (fun H locs hI => ?_)
  exact g_vret X hr hlk hK hI hfin dX_setOverflow_12
set_option maxHeartbeats 4000000 in
set_option maxRecDepth 100000 in
theorem cx_fitted (l : Launch) (D : va_G) (cA : ClassId) (o q : Nat) (hne : va_nd [o, q] = true) (u : XS) (a0 : Int64) (z : Int64 × XS) (hfin : x_fitted u a0 = some z) : gMl l yX_fitted wX_fitted (rmF 1 21) D [(cA, .long)] (XW cA o q) (XA o q) [.ref o, .long a0] u z := by
  refine g_start (plainFor_of_name (by decide)) (Nat.le_of_ble_eq_true rfl) ?_
  intro p e s0 m args below meth c ls X hr hlk hB hl
  obtain ⟨hP0, hK⟩ := hB
  have hI : gI D (XW cA o q) (XA o q) s0.heap s0.heap [] u := ⟨hP0, va_S.rf⟩
  have hl : lv_has ls 5 [(0, .ref o), (1, .long a0)] := hl
  have hx := X.1
  have hb := X.2.1
  rw [x_fitted] at hfin
  refine lv_lload_n hx hb dX_fitted_0 rfl (lv_at hl 1 rfl) ?_
  refine lv_ldc2 hx hb X.2.2.2.1 (X.2.2.2.2 _ hkX_17) dX_fitted_1 ?_
  refine lv_land hx hb dX_fitted_4 ?_
  refine lv_topl (fun x5 e5 => ?_)
  replace hfin := nm_at hfin e5
  refine lv_lstore_n (lv' := [(3, .long x5), (0, .ref o), (1, .long a0)]) hx hb dX_fitted_5 rfl hl (by decide) rfl (fun ls hl => ?_)
  refine lv_lload_n hx hb dX_fitted_6 rfl (lv_at hl 0 rfl) ?_
  refine g_callPl [.long x5] [] X (cx_signed l x5) (cwX_X_signed X.2.2.2.2 ⟨Nat.le_of_ble_eq_true rfl, Nat.le_of_ble_eq_true rfl⟩) rfl hl.1 rfl (Nat.le_of_ble_eq_true rfl) dX_fitted_7 ?_
  refine lv_lload_n hx hb dX_fitted_10 rfl (lv_at hl 2 rfl) ?_
  refine W.lcmp hx hb dX_fitted_11 ?_
  refine lv_if_eq (tgt := 19) hx hb dX_fitted_12 (by decide) (fun hc12 => ?_) (fun hc12 => ?_)
  · rw [if_pos hc12] at hfin
    refine lv_lload_n hx hb dX_fitted_19 rfl (lv_at hl 0 rfl) ?_
    exact g_lret X hr hlk hK hI hfin dX_fitted_20
  rw [if_neg hc12] at hfin
  refine lv_aload_n hx hb dX_fitted_15 rfl (lv_at hl 1 rfl) ?_
  obtain ⟨z16, hz16, hfin⟩ := bd_ob hfin
  refine g_callMv [] [] X hK x_rcv hI (cx_setOverflow l D cA o q hne u z16 hz16) (cwX_X_setOverflow X.2.2.2.2 ⟨Nat.le_of_ble_eq_true rfl, Nat.le_of_ble_eq_true rfl⟩) rfl hl.1 rfl (Nat.le_of_ble_eq_true rfl) dX_fitted_16 (fun H locs hI => ?_)
  refine lv_lload_n hx hb dX_fitted_19 rfl (lv_at hl 0 rfl) ?_
  exact g_lret X hr hlk hK hI hfin dX_fitted_20
set_option maxHeartbeats 4000000 in
set_option maxRecDepth 100000 in
theorem cx_changedToMove (l : Launch) (D : va_G) (cA : ClassId) (o q : Nat) (hne : va_nd [o, q] = true) (u : XS) (a0 : Int32) (a1 : Int64) (z : Int64 × XS) (hfin : x_changedToMove u a0 a1 = some z) : gMl l yX_changedToMove wX_changedToMove (rmF 2 45) D [(cA, .long)] (XW cA o q) (XA o q) [.ref o, .int a0, .long a1] u z := by
  refine g_start (plainFor_of_name (by decide)) (Nat.le_of_ble_eq_true rfl) ?_
  intro p e s0 m args below meth c ls X hr hlk hB hl
  obtain ⟨hP0, hK⟩ := hB
  have hI : gI D (XW cA o q) (XA o q) s0.heap s0.heap [] u := ⟨hP0, va_S.rf⟩
  have hl : lv_has ls 4 [(0, .ref o), (1, .int a0), (2, .long a1)] := hl
  have hx := X.1
  have hb := X.2.1
  rw [x_changedToMove] at hfin
  refine lv_iload_n hx hb dX_changedToMove_0 rfl (lv_at hl 1 rfl) ?_
  by_cases hk1_0 : a0 = (0 : Int32)
  · rw [if_pos hk1_0] at hfin
    refine lv_tableIn hx hb dX_changedToMove_1 (off := 27) (tgt := 28) (by rw [hk1_0]; decide) (by rw [hk1_0]; decide) (by rw [hk1_0]; rfl) (by decide) ?_
    refine lv_lload_n hx hb dX_changedToMove_28 rfl (lv_at hl 2 rfl) ?_
    exact g_lret X hr hlk hK hI hfin dX_changedToMove_29
  rw [if_neg hk1_0] at hfin
  by_cases hk1_1 : a0 = (1 : Int32)
  · rw [if_pos hk1_1] at hfin
    refine lv_tableIn hx hb dX_changedToMove_1 (off := 29) (tgt := 30) (by rw [hk1_1]; decide) (by rw [hk1_1]; decide) (by rw [hk1_1]; rfl) (by decide) ?_
    refine lv_lload_n hx hb dX_changedToMove_30 rfl (lv_at hl 2 rfl) ?_
    refine g_callPl [.long a1] [] X (cx_swapped l a1) (cwX_X_swapped X.2.2.2.2 ⟨Nat.le_of_ble_eq_true rfl, Nat.le_of_ble_eq_true rfl⟩) rfl hl.1 rfl (Nat.le_of_ble_eq_true rfl) dX_changedToMove_31 ?_
    exact g_lret X hr hlk hK hI hfin dX_changedToMove_34
  rw [if_neg hk1_1] at hfin
  by_cases hk1_2 : a0 = (2 : Int32)
  · rw [if_pos hk1_2] at hfin
    refine lv_tableIn hx hb dX_changedToMove_1 (off := 34) (tgt := 35) (by rw [hk1_2]; decide) (by rw [hk1_2]; decide) (by rw [hk1_2]; rfl) (by decide) ?_
    refine lv_aload_n hx hb dX_changedToMove_35 rfl (lv_at hl 0 rfl) ?_
    refine lv_lload_n hx hb dX_changedToMove_36 rfl (lv_at hl 2 rfl) ?_
    refine g_callPl [.long a1] [.ref o] X (cx_signed l a1) (cwX_X_signed X.2.2.2.2 ⟨Nat.le_of_ble_eq_true rfl, Nat.le_of_ble_eq_true rfl⟩) rfl hl.1 rfl (Nat.le_of_ble_eq_true rfl) dX_changedToMove_37 ?_
    refine lv_lneg hx hb dX_changedToMove_40 ?_
    obtain ⟨z41, hz41, hfin⟩ := bd_ob hfin
    refine g_callMl [.long (-(x_signed a1))] [] X hK x_rcv hI (cx_fitted l D cA o q hne u (-(x_signed a1)) z41 hz41) (cwX_X_fitted X.2.2.2.2 ⟨Nat.le_of_ble_eq_true rfl, Nat.le_of_ble_eq_true rfl⟩) rfl hl.1 rfl (Nat.le_of_ble_eq_true rfl) dX_changedToMove_41 (fun H locs hI => ?_)
    exact g_lret X hr hlk hK hI hfin dX_changedToMove_44
  rw [if_neg hk1_2] at hfin
  have hn1_0 := i32_ne (0 : Int32) 0 (by decide) hk1_0
  have hn1_1 := i32_ne (1 : Int32) 1 (by decide) hk1_1
  have hn1_2 := i32_ne (2 : Int32) 2 (by decide) hk1_2
  refine lv_tableOut hx hb dX_changedToMove_1 (tgt := 45) (by omega) (by decide) ?_
  refine lv_aload_n hx hb dX_changedToMove_45 rfl (lv_at hl 0 rfl) ?_
  refine lv_lload_n hx hb dX_changedToMove_46 rfl (lv_at hl 2 rfl) ?_
  refine g_callPl [.long a1] [.ref o] X (cx_signed l a1) (cwX_X_signed X.2.2.2.2 ⟨Nat.le_of_ble_eq_true rfl, Nat.le_of_ble_eq_true rfl⟩) rfl hl.1 rfl (Nat.le_of_ble_eq_true rfl) dX_changedToMove_47 ?_
  refine g_callPl [.long (x_signed a1)] [.ref o] X (cj_abs l (x_signed a1)) (cwX_J_abs X.2.2.2.2 ⟨Nat.le_of_ble_eq_true rfl, Nat.le_of_ble_eq_true rfl⟩) rfl hl.1 rfl (Nat.le_of_ble_eq_true rfl) dX_changedToMove_50 ?_
  obtain ⟨z53, hz53, hfin⟩ := bd_ob hfin
  refine g_callMl [.long (j_abs (x_signed a1))] [] X hK x_rcv hI (cx_fitted l D cA o q hne u (j_abs (x_signed a1)) z53 hz53) (cwX_X_fitted X.2.2.2.2 ⟨Nat.le_of_ble_eq_true rfl, Nat.le_of_ble_eq_true rfl⟩) rfl hl.1 rfl (Nat.le_of_ble_eq_true rfl) dX_changedToMove_53 (fun H locs hI => ?_)
  exact g_lret X hr hlk hK hI hfin dX_changedToMove_56
set_option maxHeartbeats 4000000 in
set_option maxRecDepth 100000 in
theorem cx_setAccumulatorButZero (l : Launch) (D : va_G) (cA : ClassId) (o q : Nat) (hne : va_nd [o, q] = true) (u : XS) (a0 : Int32) (a1 : Int64) (z : XS) (hfin : x_setAccumulatorButZero u a0 a1 = some z) : gMv l yX_setAccumulatorButZero wX_setAccumulatorButZero (rmF 1 23) D [(cA, .long)] (XW cA o q) (XA o q) [.ref o, .int a0, .long a1] u z := by
  refine g_start (plainFor_of_name (by decide)) (Nat.le_of_ble_eq_true rfl) ?_
  intro p e s0 m args below meth c ls X hr hlk hB hl
  obtain ⟨hP0, hK⟩ := hB
  have hI : gI D (XW cA o q) (XA o q) s0.heap s0.heap [] u := ⟨hP0, va_S.rf⟩
  have hl : lv_has ls 4 [(0, .ref o), (1, .int a0), (2, .long a1)] := hl
  have hx := X.1
  have hb := X.2.1
  rw [x_setAccumulatorButZero] at hfin
  refine lv_iload_n hx hb dX_setAccumulatorButZero_0 rfl (lv_at hl 1 rfl) ?_
  refine lv_if_eq (tgt := 10) hx hb dX_setAccumulatorButZero_1 (by decide) (fun hc1 => ?_) (fun hc1 => ?_)
  · rw [if_pos hc1] at hfin
    exact g_vret X hr hlk hK hI hfin dX_setAccumulatorButZero_10
  rw [if_neg hc1] at hfin
  refine lv_aload_n hx hb dX_setAccumulatorButZero_4 rfl (lv_at hl 0 rfl) ?_
  refine lv_iload_n hx hb dX_setAccumulatorButZero_5 rfl (lv_at hl 1 rfl) ?_
  refine lv_lload_n hx hb dX_setAccumulatorButZero_6 rfl (lv_at hl 2 rfl) ?_
  obtain ⟨z7, hz7, hfin⟩ := bd_ob hfin
  refine g_callMv [.int a0, .long a1] [] X hK x_rcv hI (cx_setAccumulator l D cA o q hne u a0 a1 z7 hz7) (cwX_X_setAccumulator X.2.2.2.2 ⟨Nat.le_of_ble_eq_true rfl, Nat.le_of_ble_eq_true rfl⟩) rfl hl.1 rfl (Nat.le_of_ble_eq_true rfl) dX_setAccumulatorButZero_7 (fun H locs hI => ?_)
  exact g_vret X hr hlk hK hI hfin dX_setAccumulatorButZero_10
set_option maxHeartbeats 4000000 in
set_option maxRecDepth 100000 in
theorem cx_putMoved (l : Launch) (D : va_G) (cA : ClassId) (o q : Nat) (hne : va_nd [o, q] = true) (u : XS) (a0 : Int32) (a1 : Int32) (a2 : Int32) (a3 : Int64) (z : XS) (hfin : x_putMoved u a0 a1 a2 a3 = some z) : gMv l yX_putMoved wX_putMoved (rmF 2 46) D [(cA, .long)] (XW cA o q) (XA o q) [.ref o, .int a0, .int a1, .int a2, .long a3] u z := by
  refine g_start (plainFor_of_name (by decide)) (Nat.le_of_ble_eq_true rfl) ?_
  intro p e s0 m args below meth c ls X hr hlk hB hl
  obtain ⟨hP0, hK⟩ := hB
  have hI : gI D (XW cA o q) (XA o q) s0.heap s0.heap [] u := ⟨hP0, va_S.rf⟩
  have hl : lv_has ls 6 [(0, .ref o), (1, .int a0), (2, .int a1), (3, .int a2), (4, .long a3)] := hl
  have hx := X.1
  have hb := X.2.1
  rw [x_putMoved] at hfin
  refine lv_iload_n hx hb dX_putMoved_0 rfl (lv_at hl 1 rfl) ?_
  refine lv_iconst (v := (2 : Int32)) hx hb dX_putMoved_1 (by decide) ?_
  refine lv_icmp_ne (tgt := 15) hx hb dX_putMoved_2 (by decide) (fun hc2 => ?_) (fun hc2 => ?_)
  · rw [if_neg hc2] at hfin
    refine lv_iload_n hx hb dX_putMoved_15 rfl (lv_at hl 1 rfl) ?_
    refine lv_iconst (v := (3 : Int32)) hx hb dX_putMoved_16 (by decide) ?_
    refine lv_icmp_ne (tgt := 37) hx hb dX_putMoved_17 (by decide) (fun hc17 => ?_) (fun hc17 => ?_)
    · rw [if_neg hc17] at hfin
      refine lv_aload_n hx hb dX_putMoved_37 rfl (lv_at hl 0 rfl) ?_
      refine lv_iload_n hx hb dX_putMoved_38 rfl (lv_at hl 2 rfl) ?_
      refine lv_lload hx hb dX_putMoved_39 (lv_at hl 4 rfl) ?_
      obtain ⟨z41, hz41, hfin⟩ := bd_ob hfin
      refine g_callMv [.int a1, .long a3] [] X hK x_rcv hI (cx_setAccumulator l D cA o q hne u a1 a3 z41 hz41) (cwX_X_setAccumulator X.2.2.2.2 ⟨Nat.le_of_ble_eq_true rfl, Nat.le_of_ble_eq_true rfl⟩) rfl hl.1 rfl (Nat.le_of_ble_eq_true rfl) dX_putMoved_41 (fun H locs hI => ?_)
      exact g_vret X hr hlk hK hI hfin dX_putMoved_44
    rw [if_pos hc17] at hfin
    refine lv_aload_n hx hb dX_putMoved_20 rfl (lv_at hl 0 rfl) ?_
    refine lv_iload_n hx hb dX_putMoved_21 rfl (lv_at hl 3 rfl) ?_
    refine lv_lload hx hb dX_putMoved_22 (lv_at hl 4 rfl) ?_
    obtain ⟨z24, hz24, hfin⟩ := bd_ob hfin
    refine g_callMv [.int a2, .long a3] [] X hK x_rcv hI (cx_write l D cA o q hne u a2 a3 z24 hz24) (cwX_X_write X.2.2.2.2 ⟨Nat.le_of_ble_eq_true rfl, Nat.le_of_ble_eq_true rfl⟩) rfl hl.1 rfl (Nat.le_of_ble_eq_true rfl) dX_putMoved_24 (fun H locs hI => ?_)
    refine lv_aload_n hx hb dX_putMoved_27 rfl (lv_at hl 0 rfl) ?_
    refine lv_iload_n hx hb dX_putMoved_28 rfl (lv_at hl 2 rfl) ?_
    refine lv_lload hx hb dX_putMoved_29 (lv_at hl 4 rfl) ?_
    obtain ⟨z31, hz31, hfin⟩ := bd_ob hfin
    refine g_callMv [.int a1, .long a3] [] X hK x_rcv hI (cx_setAccumulatorButZero l D cA o q hne z24 a1 a3 z31 hz31) (cwX_X_setAccumulatorButZero X.2.2.2.2 ⟨Nat.le_of_ble_eq_true rfl, Nat.le_of_ble_eq_true rfl⟩) rfl hl.1 rfl (Nat.le_of_ble_eq_true rfl) dX_putMoved_31 (fun H locs hI => ?_)
    refine lv_goto (tgt := 44) hx hb dX_putMoved_34 (by decide) ?_
    exact g_vret X hr hlk hK hI hfin dX_putMoved_44
  rw [if_pos hc2] at hfin
  refine lv_aload_n hx hb dX_putMoved_5 rfl (lv_at hl 0 rfl) ?_
  refine lv_iload_n hx hb dX_putMoved_6 rfl (lv_at hl 3 rfl) ?_
  refine lv_lload hx hb dX_putMoved_7 (lv_at hl 4 rfl) ?_
  obtain ⟨z9, hz9, hfin⟩ := bd_ob hfin
  refine g_callMv [.int a2, .long a3] [] X hK x_rcv hI (cx_write l D cA o q hne u a2 a3 z9 hz9) (cwX_X_write X.2.2.2.2 ⟨Nat.le_of_ble_eq_true rfl, Nat.le_of_ble_eq_true rfl⟩) rfl hl.1 rfl (Nat.le_of_ble_eq_true rfl) dX_putMoved_9 (fun H locs hI => ?_)
  refine lv_goto (tgt := 44) hx hb dX_putMoved_12 (by decide) ?_
  exact g_vret X hr hlk hK hI hfin dX_putMoved_44
set_option maxHeartbeats 4000000 in
set_option maxRecDepth 100000 in
theorem cx_move (l : Launch) (D : va_G) (cA : ClassId) (o q : Nat) (hne : va_nd [o, q] = true) (u : XS) (a0 : Int32) (a1 : Int32) (a2 : Int32) (z : XS) (hfin : x_move u a0 a1 a2 = some z) : gMv l yX_move wX_move (rmF 4 89) D [(cA, .long)] (XW cA o q) (XA o q) [.ref o, .int a0, .int a1, .int a2] u z := by
  refine g_start (plainFor_of_name (by decide)) (Nat.le_of_ble_eq_true rfl) ?_
  intro p e s0 m args below meth c ls X hr hlk hB hl
  obtain ⟨hP0, hK⟩ := hB
  have hI : gI D (XW cA o q) (XA o q) s0.heap s0.heap [] u := ⟨hP0, va_S.rf⟩
  have hl : lv_has ls 7 [(0, .ref o), (1, .int a0), (2, .int a1), (3, .int a2)] := hl
  have hx := X.1
  have hb := X.2.1
  rw [x_move] at hfin
  refine lv_iload_n hx hb dX_move_0 rfl (lv_at hl 1 rfl) ?_
  refine lv_iconst (v := (3 : Int32)) hx hb dX_move_1 (by decide) ?_
  refine lv_iand hx hb dX_move_2 ?_
  refine lv_topi (fun x3 e3 => ?_)
  replace hfin := nm_at hfin e3
  refine lv_istore (lv' := [(4, .int x3), (0, .ref o), (1, .int a0), (2, .int a1), (3, .int a2)]) hx hb dX_move_3 hl (by decide) rfl (fun ls hl => ?_)
  refine lv_aload_n hx hb dX_move_5 rfl (lv_at hl 1 rfl) ?_
  refine lv_iload hx hb dX_move_6 (lv_at hl 0 rfl) ?_
  refine lv_iload_n hx hb dX_move_8 rfl (lv_at hl 3 rfl) ?_
  refine lv_iload_n hx hb dX_move_9 rfl (lv_at hl 4 rfl) ?_
  obtain ⟨z10, hz10, hfin⟩ := bd_ob hfin
  refine g_callMl [.int x3, .int a1, .int a2] [] X hK x_rcv hI (cx_movedSource l D cA o q hne u x3 a1 a2 z10 hz10) (cwX_X_movedSource X.2.2.2.2 ⟨Nat.le_of_ble_eq_true rfl, Nat.le_of_ble_eq_true rfl⟩) rfl hl.1 rfl (Nat.le_of_ble_eq_true rfl) dX_move_10 (fun H locs hI => ?_)
  refine lv_lstore (lv' := [(5, .long z10.1), (4, .int x3), (0, .ref o), (1, .int a0), (2, .int a1), (3, .int a2)]) hx hb dX_move_13 hl (by decide) rfl (fun ls hl => ?_)
  refine lv_aload_n hx hb dX_move_15 rfl (lv_at hl 2 rfl) ?_
  refine lv_iload hx hb dX_move_16 (lv_at hl 1 rfl) ?_
  refine lv_iload_n hx hb dX_move_18 rfl (lv_at hl 4 rfl) ?_
  refine lv_iload_n hx hb dX_move_19 rfl (lv_at hl 5 rfl) ?_
  refine lv_aload_n hx hb dX_move_20 rfl (lv_at hl 2 rfl) ?_
  refine lv_iload_n hx hb dX_move_21 rfl (lv_at hl 3 rfl) ?_
  refine lv_iconst (v := (2 : Int32)) hx hb dX_move_22 (by decide) ?_
  refine lv_ishr hx hb dX_move_23 ?_
  refine lv_iconst (v := (3 : Int32)) hx hb dX_move_24 (by decide) ?_
  refine lv_iand hx hb dX_move_25 ?_
  refine lv_lload hx hb dX_move_26 (lv_at hl 0 rfl) ?_
  obtain ⟨z28, hz28, hfin⟩ := bd_ob hfin
  refine g_callMl [.int ((a0 >>> ((2 : Int32) &&& 31)) &&& (3 : Int32)), .long z10.1] [.int a2, .int a1, .int x3, .ref o] X hK x_rcv hI (cx_changedToMove l D cA o q hne z10.2 ((a0 >>> ((2 : Int32) &&& 31)) &&& (3 : Int32)) z10.1 z28 hz28) (cwX_X_changedToMove X.2.2.2.2 ⟨Nat.le_of_ble_eq_true rfl, Nat.le_of_ble_eq_true rfl⟩) rfl hl.1 rfl (Nat.le_of_ble_eq_true rfl) dX_move_28 (fun H locs hI => ?_)
  obtain ⟨z31, hz31, hfin⟩ := bd_ob hfin
  refine g_callMv [.int x3, .int a1, .int a2, .long z28.1] [] X hK x_rcv hI (cx_putMoved l D cA o q hne z28.2 x3 a1 a2 z28.1 z31 hz31) (cwX_X_putMoved X.2.2.2.2 ⟨Nat.le_of_ble_eq_true rfl, Nat.le_of_ble_eq_true rfl⟩) rfl hl.1 rfl (Nat.le_of_ble_eq_true rfl) dX_move_31 (fun H locs hI => ?_)
  exact g_vret X hr hlk hK hI hfin dX_move_34
set_option maxHeartbeats 4000000 in
set_option maxRecDepth 100000 in
theorem cx_productFits (l : Launch) (a0 : Int64) (a1 : Int64) : gPi l yX_productFits wX_productFits (rmF 0 0) [.long a0, .long a1] (x_productFits a0 a1) := by
  obtain ⟨z, hz⟩ : ∃ z, z = x_productFits a0 a1 := ⟨_, rfl⟩
  rw [← hz]
  have hfin := hz.symm
  clear hz
  refine g_start (plainFor_of_name (by decide)) (Nat.le_of_ble_eq_true rfl) ?_
  intro p e s0 m args below meth c ls X hr hlk hB hl
  have hl : lv_has ls 6 [(0, .long a0), (2, .long a1)] := hl
  have hx := X.1
  have hb := X.2.1
  rw [x_productFits] at hfin
  refine lv_lload_n hx hb dX_productFits_0 rfl (lv_at hl 0 rfl) ?_
  refine lv_lload_n hx hb dX_productFits_1 rfl (lv_at hl 1 rfl) ?_
  refine lv_bipush (v := (18 : Int32)) hx hb dX_productFits_2 (by decide) ?_
  refine lv_lshr hx hb dX_productFits_4 rfl ?_
  refine lv_lmul hx hb dX_productFits_5 ?_
  refine lv_lload_n hx hb dX_productFits_6 rfl (lv_at hl 0 rfl) ?_
  refine lv_lload_n hx hb dX_productFits_7 rfl (lv_at hl 1 rfl) ?_
  refine lv_ldc2 hx hb X.2.2.2.1 (X.2.2.2.2 _ hkX_212) dX_productFits_8 ?_
  refine lv_land hx hb dX_productFits_11 ?_
  refine lv_lmul hx hb dX_productFits_12 ?_
  refine lv_bipush (v := (18 : Int32)) hx hb dX_productFits_13 (by decide) ?_
  refine lv_lshr hx hb dX_productFits_15 rfl ?_
  refine lv_ladd hx hb dX_productFits_16 ?_
  refine lv_topl (fun x17 e17 => ?_)
  replace hfin := nm_at hfin e17
  refine lv_lstore (lv' := [(4, .long x17), (0, .long a0), (2, .long a1)]) hx hb dX_productFits_17 hl (by decide) rfl (fun ls hl => ?_)
  refine lv_lload hx hb dX_productFits_19 (lv_at hl 0 rfl) ?_
  refine lv_ldc2 hx hb X.2.2.2.1 (X.2.2.2.2 _ hkX_214) dX_productFits_21 ?_
  refine W.lcmp hx hb dX_productFits_24 ?_
  refine lv_if_lt (tgt := 41) hx hb dX_productFits_25 (by decide) (fun hc25 => ?_) (fun hc25 => ?_)
  · rw [if_pos hc25] at hfin
    refine lv_iconst (v := (0 : Int32)) hx hb dX_productFits_41 (by decide) ?_
    exact g_zretP X hr hlk rfl hfin dX_productFits_42
  rw [if_neg hc25] at hfin
  refine lv_lload hx hb dX_productFits_28 (lv_at hl 0 rfl) ?_
  refine lv_ldc2 hx hb X.2.2.2.1 (X.2.2.2.2 _ hkX_216) dX_productFits_30 ?_
  refine W.lcmp hx hb dX_productFits_33 ?_
  refine lv_if_ge (tgt := 41) hx hb dX_productFits_34 (by decide) (fun hc34 => ?_) (fun hc34 => ?_)
  · rw [if_pos hc34] at hfin
    refine lv_iconst (v := (0 : Int32)) hx hb dX_productFits_41 (by decide) ?_
    exact g_zretP X hr hlk rfl hfin dX_productFits_42
  rw [if_neg hc34] at hfin
  refine lv_iconst (v := (1 : Int32)) hx hb dX_productFits_37 (by decide) ?_
  refine lv_goto (tgt := 42) hx hb dX_productFits_38 (by decide) ?_
  exact g_zretP X hr hlk rfl hfin dX_productFits_42
set_option maxHeartbeats 4000000 in
set_option maxRecDepth 100000 in
theorem cx_putResult (l : Launch) (D : va_G) (cA : ClassId) (o q : Nat) (hne : va_nd [o, q] = true) (u : XS) (a0 : Int32) (a1 : Int32) (a2 : Int32) (a3 : Int64) (z : XS) (hfin : x_putResult u a0 a1 a2 a3 = some z) : gMv l yX_putResult wX_putResult (rmF 2 46) D [(cA, .long)] (XW cA o q) (XA o q) [.ref o, .int a0, .int a1, .int a2, .long a3] u z := by
  refine g_start (plainFor_of_name (by decide)) (Nat.le_of_ble_eq_true rfl) ?_
  intro p e s0 m args below meth c ls X hr hlk hB hl
  obtain ⟨hP0, hK⟩ := hB
  have hI : gI D (XW cA o q) (XA o q) s0.heap s0.heap [] u := ⟨hP0, va_S.rf⟩
  have hl : lv_has ls 6 [(0, .ref o), (1, .int a0), (2, .int a1), (3, .int a2), (4, .long a3)] := hl
  have hx := X.1
  have hb := X.2.1
  have B_12 : ∀ (u : XS) (H : Heap) (locs : List Loc) (ls : Array Slot), lv_has ls 6 [(0, .ref o), (1, .int a0), (2, .int a1), (3, .int a2), (4, .long a3)] → gI D (XW cA o q) (XA o q) s0.heap H locs u → x_putResult_12 a0 a1 a2 a3 u = some z → W p l e (rmF 2 46) s0 m args below meth c H locs 0 0 (MQ below (va_Qv (fun x => x = z) (gB D [(cA, .long)] (XW cA o q)) (XA o q)) args s0 0 0 (XA o q)) (F0 m 12 ls []) := by
    intro u H locs ls hl hI hfin
    rw [x_putResult_12] at hfin
    refine lv_iload_n hx hb dX_putResult_12 rfl (lv_at hl 1 rfl) ?_
    refine lv_iconst (v := (2 : Int32)) hx hb dX_putResult_13 (by decide) ?_
    refine lv_icmp_eq (tgt := 24) hx hb dX_putResult_14 (by decide) (fun hc14 => ?_) (fun hc14 => ?_)
    · rw [if_pos hc14] at hfin
      exact g_vret X hr hlk hK hI hfin dX_putResult_24
    rw [if_neg hc14] at hfin
    refine lv_aload_n hx hb dX_putResult_17 rfl (lv_at hl 0 rfl) ?_
    refine lv_iload_n hx hb dX_putResult_18 rfl (lv_at hl 2 rfl) ?_
    refine lv_lload hx hb dX_putResult_19 (lv_at hl 4 rfl) ?_
    obtain ⟨z21, hz21, hfin⟩ := bd_ob hfin
    refine g_callMv [.int a1, .long a3] [] X hK x_rcv hI (cx_setAccumulator l D cA o q hne u a1 a3 z21 hz21) (cwX_X_setAccumulator X.2.2.2.2 ⟨Nat.le_of_ble_eq_true rfl, Nat.le_of_ble_eq_true rfl⟩) rfl hl.1 rfl (Nat.le_of_ble_eq_true rfl) dX_putResult_21 (fun H locs hI => ?_)
    exact g_vret X hr hlk hK hI hfin dX_putResult_24
  rw [x_putResult] at hfin
  refine lv_iload_n hx hb dX_putResult_0 rfl (lv_at hl 1 rfl) ?_
  refine lv_iconst (v := (2 : Int32)) hx hb dX_putResult_1 (by decide) ?_
  refine lv_icmp_lt (tgt := 12) hx hb dX_putResult_2 (by decide) (fun hc2 => ?_) (fun hc2 => ?_)
  · rw [if_pos hc2] at hfin
    exact B_12 u s0.heap [] ls (lv_sub hl [0, 1, 2, 3, 4] rfl) hI hfin
  rw [if_neg hc2] at hfin
  refine lv_aload_n hx hb dX_putResult_5 rfl (lv_at hl 0 rfl) ?_
  refine lv_iload_n hx hb dX_putResult_6 rfl (lv_at hl 3 rfl) ?_
  refine lv_lload hx hb dX_putResult_7 (lv_at hl 4 rfl) ?_
  obtain ⟨z9, hz9, hfin⟩ := bd_ob hfin
  refine g_callMv [.int a2, .long a3] [] X hK x_rcv hI (cx_write l D cA o q hne u a2 a3 z9 hz9) (cwX_X_write X.2.2.2.2 ⟨Nat.le_of_ble_eq_true rfl, Nat.le_of_ble_eq_true rfl⟩) rfl hl.1 rfl (Nat.le_of_ble_eq_true rfl) dX_putResult_9 (fun H locs hI => ?_)
  exact B_12 z9 H locs ls (lv_sub hl [0, 1, 2, 3, 4] rfl) hI hfin
set_option maxHeartbeats 4000000 in
set_option maxRecDepth 100000 in
theorem cx_multiply (l : Launch) (D : va_G) (cA : ClassId) (o q : Nat) (hne : va_nd [o, q] = true) (u : XS) (a0 : Int32) (a1 : Int32) (a2 : Int32) (z : XS) (hfin : x_multiply u a0 a1 a2 = some z) : gMv l yX_multiply wX_multiply (rmF 3 71) D [(cA, .long)] (XW cA o q) (XA o q) [.ref o, .int a0, .int a1, .int a2] u z := by
  refine g_start (plainFor_of_name (by decide)) (Nat.le_of_ble_eq_true rfl) ?_
  intro p e s0 m args below meth c ls X hr hlk hB hl
  obtain ⟨hP0, hK⟩ := hB
  have hI : gI D (XW cA o q) (XA o q) s0.heap s0.heap [] u := ⟨hP0, va_S.rf⟩
  have hl : lv_has ls 9 [(0, .ref o), (1, .int a0), (2, .int a1), (3, .int a2)] := hl
  have hx := X.1
  have hb := X.2.1
  have B_54 : ∀ (u : XS) (v4 : Int32) (v5 : Int64) (v7 : Int64) (H : Heap) (locs : List Loc) (ls : Array Slot), lv_has ls 9 [(0, .ref o), (1, .int a0), (2, .int a1), (3, .int a2), (4, .int v4), (5, .long v5), (7, .long v7)] → gI D (XW cA o q) (XA o q) s0.heap H locs u → x_multiply_54 a0 a1 a2 u v4 v5 v7 = some z → W p l e (rmF 3 71) s0 m args below meth c H locs 0 0 (MQ below (va_Qv (fun x => x = z) (gB D [(cA, .long)] (XW cA o q)) (XA o q)) args s0 0 0 (XA o q)) (F0 m 54 ls []) := by
    intro u v4 v5 v7 H locs ls hl hI hfin
    rw [x_multiply_54] at hfin
    refine lv_aload_n hx hb dX_multiply_54 rfl (lv_at hl 0 rfl) ?_
    refine lv_iload hx hb dX_multiply_55 (lv_at hl 4 rfl) ?_
    refine lv_iload_n hx hb dX_multiply_57 rfl (lv_at hl 2 rfl) ?_
    refine lv_iload_n hx hb dX_multiply_58 rfl (lv_at hl 3 rfl) ?_
    refine lv_lload hx hb dX_multiply_59 (lv_at hl 5 rfl) ?_
    refine lv_lload hx hb dX_multiply_61 (lv_at hl 6 rfl) ?_
    refine lv_lmul hx hb dX_multiply_63 ?_
    refine lv_ldc2 hx hb X.2.2.2.1 (X.2.2.2.2 _ hkX_17) dX_multiply_64 ?_
    refine lv_land hx hb dX_multiply_67 ?_
    obtain ⟨z68, hz68, hfin⟩ := bd_ob hfin
    refine g_callMv [.int v4, .int a1, .int a2, .long ((v5 * v7) &&& (68719476735 : Int64))] [] X hK x_rcv hI (cx_putResult l D cA o q hne u v4 a1 a2 ((v5 * v7) &&& (68719476735 : Int64)) z68 hz68) (cwX_X_putResult X.2.2.2.2 ⟨Nat.le_of_ble_eq_true rfl, Nat.le_of_ble_eq_true rfl⟩) rfl hl.1 rfl (Nat.le_of_ble_eq_true rfl) dX_multiply_68 (fun H locs hI => ?_)
    exact g_vret X hr hlk hK hI hfin dX_multiply_71
  rw [x_multiply] at hfin
  refine lv_iload_n hx hb dX_multiply_0 rfl (lv_at hl 1 rfl) ?_
  refine lv_iconst (v := (4 : Int32)) hx hb dX_multiply_1 (by decide) ?_
  refine lv_iand hx hb dX_multiply_2 ?_
  refine lv_if_eq (tgt := 12) hx hb dX_multiply_3 (by decide) (fun hc3 => ?_) (fun hc3 => ?_)
  · rw [if_pos hc3] at hfin
    refine lv_iload_n hx hb dX_multiply_12 rfl (lv_at hl 1 rfl) ?_
    refine lv_iconst (v := (3 : Int32)) hx hb dX_multiply_13 (by decide) ?_
    refine lv_iand hx hb dX_multiply_14 ?_
    refine lv_topi (fun x15 e15 => ?_)
    replace hfin := nm_at hfin e15
    refine lv_istore (lv' := [(4, .int x15), (0, .ref o), (1, .int a0), (2, .int a1), (3, .int a2)]) hx hb dX_multiply_15 hl (by decide) rfl (fun ls hl => ?_)
    refine lv_aload_n hx hb dX_multiply_17 rfl (lv_at hl 1 rfl) ?_
    refine xg_words X hK hI.1 dX_multiply_18 ?_
    refine lv_iload_n hx hb dX_multiply_21 rfl (lv_at hl 3 rfl) ?_
    obtain ⟨hd22, hfin⟩ := ck_if hfin
    refine xl_words X hK hI.1 hd22 dX_multiply_22 ?_
    refine g_callPl [.long (X_words u a1.toNatClampNeg)] [] X (cx_signed l (X_words u a1.toNatClampNeg)) (cwX_X_signed X.2.2.2.2 ⟨Nat.le_of_ble_eq_true rfl, Nat.le_of_ble_eq_true rfl⟩) rfl hl.1 rfl (Nat.le_of_ble_eq_true rfl) dX_multiply_23 ?_
    refine lv_topl (fun x26 e26 => ?_)
    replace hfin := nm_at hfin e26
    refine lv_lstore (lv' := [(5, .long x26), (4, .int x15), (0, .ref o), (1, .int a0), (2, .int a1), (3, .int a2)]) hx hb dX_multiply_26 hl (by decide) rfl (fun ls hl => ?_)
    refine lv_aload_n hx hb dX_multiply_28 rfl (lv_at hl 2 rfl) ?_
    refine lv_iload hx hb dX_multiply_29 (lv_at hl 1 rfl) ?_
    refine lv_iload_n hx hb dX_multiply_31 rfl (lv_at hl 5 rfl) ?_
    obtain ⟨z32, hz32, hfin⟩ := bd_ob hfin
    refine g_callMl [.int x15, .int a2] [] X hK x_rcv hI (cx_source l D cA o q hne u x15 a2 z32 hz32) (cwX_X_source X.2.2.2.2 ⟨Nat.le_of_ble_eq_true rfl, Nat.le_of_ble_eq_true rfl⟩) rfl hl.1 rfl (Nat.le_of_ble_eq_true rfl) dX_multiply_32 (fun H locs hI => ?_)
    refine g_callPl [.long z32.1] [] X (cx_signed l z32.1) (cwX_X_signed X.2.2.2.2 ⟨Nat.le_of_ble_eq_true rfl, Nat.le_of_ble_eq_true rfl⟩) rfl hl.1 rfl (Nat.le_of_ble_eq_true rfl) dX_multiply_35 ?_
    refine lv_topl (fun x38 e38 => ?_)
    replace hfin := nm_at hfin e38
    refine lv_lstore (lv' := [(7, .long x38), (5, .long x26), (4, .int x15), (0, .ref o), (1, .int a0), (2, .int a1), (3, .int a2)]) hx hb dX_multiply_38 hl (by decide) rfl (fun ls hl => ?_)
    refine lv_lload hx hb dX_multiply_40 (lv_at hl 1 rfl) ?_
    refine lv_lload hx hb dX_multiply_42 (lv_at hl 0 rfl) ?_
    refine g_callPi [.long x26, .long x38] [] X (cx_productFits l x26 x38) (cwX_X_productFits X.2.2.2.2 ⟨Nat.le_of_ble_eq_true rfl, Nat.le_of_ble_eq_true rfl⟩) rfl hl.1 rfl (Nat.le_of_ble_eq_true rfl) dX_multiply_44 ?_
    refine lv_if_ne (tgt := 54) hx hb dX_multiply_47 (by decide) (fun hc47 => ?_) (fun hc47 => ?_)
    · rw [if_neg hc47] at hfin
      exact B_54 z32.2 x15 x26 x38 H locs ls (lv_sub hl [3, 4, 5, 6, 2, 1, 0] rfl) hI hfin
    rw [if_pos hc47] at hfin
    refine lv_aload_n hx hb dX_multiply_50 rfl (lv_at hl 3 rfl) ?_
    obtain ⟨z51, hz51, hfin⟩ := bd_ob hfin
    refine g_callMv [] [] X hK x_rcv hI (cx_setOverflow l D cA o q hne z32.2 z51 hz51) (cwX_X_setOverflow X.2.2.2.2 ⟨Nat.le_of_ble_eq_true rfl, Nat.le_of_ble_eq_true rfl⟩) rfl hl.1 rfl (Nat.le_of_ble_eq_true rfl) dX_multiply_51 (fun H locs hI => ?_)
    exact B_54 z51 x15 x26 x38 H locs ls (lv_sub hl [3, 4, 5, 6, 2, 1, 0] rfl) hI hfin
  rw [if_neg hc3] at hfin
  refine lv_aload_n hx hb dX_multiply_6 rfl (lv_at hl 0 rfl) ?_
  refine lv_iconst (v := (2 : Int32)) hx hb dX_multiply_7 (by decide) ?_
  obtain ⟨z8, hz8, hfin⟩ := bd_ob hfin
  refine g_callMv [.int (2 : Int32)] [] X hK x_rcv hI (cx_raise l D cA o q hne u (2 : Int32) z8 hz8) (cwX_X_raise X.2.2.2.2 ⟨Nat.le_of_ble_eq_true rfl, Nat.le_of_ble_eq_true rfl⟩) rfl hl.1 rfl (Nat.le_of_ble_eq_true rfl) dX_multiply_8 (fun H locs hI => ?_)
  exact g_vret X hr hlk hK hI hfin dX_multiply_11
set_option maxHeartbeats 4000000 in
set_option maxRecDepth 100000 in
theorem cx_divide (l : Launch) (D : va_G) (cA : ClassId) (o q : Nat) (hne : va_nd [o, q] = true) (u : XS) (a0 : Int32) (a1 : Int32) (a2 : Int32) (z : XS) (hfin : x_divide u a0 a1 a2 = some z) : gMv l yX_divide wX_divide (rmF 3 71) D [(cA, .long)] (XW cA o q) (XA o q) [.ref o, .int a0, .int a1, .int a2] u z := by
  refine g_start (plainFor_of_name (by decide)) (Nat.le_of_ble_eq_true rfl) ?_
  intro p e s0 m args below meth c ls X hr hlk hB hl
  obtain ⟨hP0, hK⟩ := hB
  have hI : gI D (XW cA o q) (XA o q) s0.heap s0.heap [] u := ⟨hP0, va_S.rf⟩
  have hl : lv_has ls 9 [(0, .ref o), (1, .int a0), (2, .int a1), (3, .int a2)] := hl
  have hx := X.1
  have hb := X.2.1
  have B_65 : ∀ (u : XS) (H : Heap) (locs : List Loc) (ls : Array Slot), lv_has ls 9 [(0, .ref o), (1, .int a0), (2, .int a1), (3, .int a2)] → gI D (XW cA o q) (XA o q) s0.heap H locs u → x_divide_65 a0 a1 a2 u = some z → W p l e (rmF 3 71) s0 m args below meth c H locs 0 0 (MQ below (va_Qv (fun x => x = z) (gB D [(cA, .long)] (XW cA o q)) (XA o q)) args s0 0 0 (XA o q)) (F0 m 65 ls []) := by
    intro u H locs ls hl hI hfin
    rw [x_divide_65] at hfin
    refine lv_aload_n hx hb dX_divide_65 rfl (lv_at hl 0 rfl) ?_
    obtain ⟨z66, hz66, hfin⟩ := bd_ob hfin
    refine g_callMv [] [] X hK x_rcv hI (cx_setOverflow l D cA o q hne u z66 hz66) (cwX_X_setOverflow X.2.2.2.2 ⟨Nat.le_of_ble_eq_true rfl, Nat.le_of_ble_eq_true rfl⟩) rfl hl.1 rfl (Nat.le_of_ble_eq_true rfl) dX_divide_66 (fun H locs hI => ?_)
    exact g_vret X hr hlk hK hI hfin dX_divide_69
  have B_70 : ∀ (u : XS) (v4 : Int32) (v5 : Int64) (v7 : Int64) (H : Heap) (locs : List Loc) (ls : Array Slot), lv_has ls 9 [(0, .ref o), (1, .int a0), (2, .int a1), (3, .int a2), (4, .int v4), (5, .long v5), (7, .long v7)] → gI D (XW cA o q) (XA o q) s0.heap H locs u → x_divide_70 a0 a1 a2 u v4 v5 v7 = some z → W p l e (rmF 3 71) s0 m args below meth c H locs 0 0 (MQ below (va_Qv (fun x => x = z) (gB D [(cA, .long)] (XW cA o q)) (XA o q)) args s0 0 0 (XA o q)) (F0 m 70 ls []) := by
    intro u v4 v5 v7 H locs ls hl hI hfin
    rw [x_divide_70] at hfin
    refine lv_aload_n hx hb dX_divide_70 rfl (lv_at hl 0 rfl) ?_
    refine lv_iload hx hb dX_divide_71 (lv_at hl 4 rfl) ?_
    refine lv_iload_n hx hb dX_divide_73 rfl (lv_at hl 2 rfl) ?_
    refine lv_iload_n hx hb dX_divide_74 rfl (lv_at hl 3 rfl) ?_
    refine lv_lload hx hb dX_divide_75 (lv_at hl 5 rfl) ?_
    refine lv_lload hx hb dX_divide_77 (lv_at hl 6 rfl) ?_
    obtain ⟨hd79, hfin⟩ := ck_if hfin
    refine lv_ldiv hx hb dX_divide_79 hd79 ?_
    refine lv_ldc2 hx hb X.2.2.2.1 (X.2.2.2.2 _ hkX_17) dX_divide_80 ?_
    refine lv_land hx hb dX_divide_83 ?_
    obtain ⟨z84, hz84, hfin⟩ := bd_ob hfin
    refine g_callMv [.int v4, .int a1, .int a2, .long ((v5 / v7) &&& (68719476735 : Int64))] [] X hK x_rcv hI (cx_putResult l D cA o q hne u v4 a1 a2 ((v5 / v7) &&& (68719476735 : Int64)) z84 hz84) (cwX_X_putResult X.2.2.2.2 ⟨Nat.le_of_ble_eq_true rfl, Nat.le_of_ble_eq_true rfl⟩) rfl hl.1 rfl (Nat.le_of_ble_eq_true rfl) dX_divide_84 (fun H locs hI => ?_)
    refine lv_iload hx hb dX_divide_87 (lv_at hl 4 rfl) ?_
    refine lv_iconst (v := (2 : Int32)) hx hb dX_divide_89 (by decide) ?_
    refine lv_icmp_eq (tgt := 112) hx hb dX_divide_90 (by decide) (fun hc90 => ?_) (fun hc90 => ?_)
    · rw [if_pos hc90] at hfin
      exact g_vret X hr hlk hK hI hfin dX_divide_112
    rw [if_neg hc90] at hfin
    refine lv_aload_n hx hb dX_divide_93 rfl (lv_at hl 0 rfl) ?_
    refine lv_iload_n hx hb dX_divide_94 rfl (lv_at hl 2 rfl) ?_
    refine lv_iconst (v := (1 : Int32)) hx hb dX_divide_95 (by decide) ?_
    refine lv_iadd hx hb dX_divide_96 ?_
    refine lv_bipush (v := (15 : Int32)) hx hb dX_divide_97 (by decide) ?_
    refine lv_iand hx hb dX_divide_99 ?_
    refine lv_lload hx hb dX_divide_100 (lv_at hl 5 rfl) ?_
    refine lv_lload hx hb dX_divide_102 (lv_at hl 6 rfl) ?_
    obtain ⟨hd104, hfin⟩ := ck_if hfin
    refine lv_lrem hx hb dX_divide_104 hd104 ?_
    refine lv_ldc2 hx hb X.2.2.2.1 (X.2.2.2.2 _ hkX_17) dX_divide_105 ?_
    refine lv_land hx hb dX_divide_108 ?_
    obtain ⟨z109, hz109, hfin⟩ := bd_ob hfin
    refine g_callMv [.int ((a1 + (1 : Int32)) &&& (15 : Int32)), .long ((v5 - v5 / v7 * v7) &&& (68719476735 : Int64))] [] X hK x_rcv hI (cx_setAccumulator l D cA o q hne z84 ((a1 + (1 : Int32)) &&& (15 : Int32)) ((v5 - v5 / v7 * v7) &&& (68719476735 : Int64)) z109 hz109) (cwX_X_setAccumulator X.2.2.2.2 ⟨Nat.le_of_ble_eq_true rfl, Nat.le_of_ble_eq_true rfl⟩) rfl hl.1 rfl (Nat.le_of_ble_eq_true rfl) dX_divide_109 (fun H locs hI => ?_)
    exact g_vret X hr hlk hK hI hfin dX_divide_112
  rw [x_divide] at hfin
  refine lv_iload_n hx hb dX_divide_0 rfl (lv_at hl 1 rfl) ?_
  refine lv_iconst (v := (4 : Int32)) hx hb dX_divide_1 (by decide) ?_
  refine lv_iand hx hb dX_divide_2 ?_
  refine lv_if_eq (tgt := 12) hx hb dX_divide_3 (by decide) (fun hc3 => ?_) (fun hc3 => ?_)
  · rw [if_pos hc3] at hfin
    refine lv_iload_n hx hb dX_divide_12 rfl (lv_at hl 1 rfl) ?_
    refine lv_iconst (v := (3 : Int32)) hx hb dX_divide_13 (by decide) ?_
    refine lv_iand hx hb dX_divide_14 ?_
    refine lv_topi (fun x15 e15 => ?_)
    replace hfin := nm_at hfin e15
    refine lv_istore (lv' := [(4, .int x15), (0, .ref o), (1, .int a0), (2, .int a1), (3, .int a2)]) hx hb dX_divide_15 hl (by decide) rfl (fun ls hl => ?_)
    refine lv_aload_n hx hb dX_divide_17 rfl (lv_at hl 1 rfl) ?_
    refine xg_words X hK hI.1 dX_divide_18 ?_
    refine lv_iload_n hx hb dX_divide_21 rfl (lv_at hl 3 rfl) ?_
    obtain ⟨hd22, hfin⟩ := ck_if hfin
    refine xl_words X hK hI.1 hd22 dX_divide_22 ?_
    refine g_callPl [.long (X_words u a1.toNatClampNeg)] [] X (cx_signed l (X_words u a1.toNatClampNeg)) (cwX_X_signed X.2.2.2.2 ⟨Nat.le_of_ble_eq_true rfl, Nat.le_of_ble_eq_true rfl⟩) rfl hl.1 rfl (Nat.le_of_ble_eq_true rfl) dX_divide_23 ?_
    refine lv_topl (fun x26 e26 => ?_)
    replace hfin := nm_at hfin e26
    refine lv_lstore (lv' := [(5, .long x26), (4, .int x15), (0, .ref o), (1, .int a0), (2, .int a1), (3, .int a2)]) hx hb dX_divide_26 hl (by decide) rfl (fun ls hl => ?_)
    refine lv_aload_n hx hb dX_divide_28 rfl (lv_at hl 2 rfl) ?_
    refine lv_iload hx hb dX_divide_29 (lv_at hl 1 rfl) ?_
    refine lv_iload_n hx hb dX_divide_31 rfl (lv_at hl 5 rfl) ?_
    obtain ⟨z32, hz32, hfin⟩ := bd_ob hfin
    refine g_callMl [.int x15, .int a2] [] X hK x_rcv hI (cx_source l D cA o q hne u x15 a2 z32 hz32) (cwX_X_source X.2.2.2.2 ⟨Nat.le_of_ble_eq_true rfl, Nat.le_of_ble_eq_true rfl⟩) rfl hl.1 rfl (Nat.le_of_ble_eq_true rfl) dX_divide_32 (fun H locs hI => ?_)
    refine g_callPl [.long z32.1] [] X (cx_signed l z32.1) (cwX_X_signed X.2.2.2.2 ⟨Nat.le_of_ble_eq_true rfl, Nat.le_of_ble_eq_true rfl⟩) rfl hl.1 rfl (Nat.le_of_ble_eq_true rfl) dX_divide_35 ?_
    refine lv_topl (fun x38 e38 => ?_)
    replace hfin := nm_at hfin e38
    refine lv_lstore (lv' := [(7, .long x38), (5, .long x26), (4, .int x15), (0, .ref o), (1, .int a0), (2, .int a1), (3, .int a2)]) hx hb dX_divide_38 hl (by decide) rfl (fun ls hl => ?_)
    refine lv_lload hx hb dX_divide_40 (lv_at hl 0 rfl) ?_
    refine lv_lconst (v := (0 : Int64)) hx hb dX_divide_42 (by decide) ?_
    refine W.lcmp hx hb dX_divide_43 ?_
    refine lv_if_eq (tgt := 65) hx hb dX_divide_44 (by decide) (fun hc44 => ?_) (fun hc44 => ?_)
    · rw [if_pos hc44] at hfin
      exact B_65 z32.2 H locs ls (lv_sub hl [3, 4, 5, 6] rfl) hI hfin
    rw [if_neg hc44] at hfin
    refine lv_lload hx hb dX_divide_47 (lv_at hl 1 rfl) ?_
    refine lv_ldc2 hx hb X.2.2.2.1 (X.2.2.2.2 _ hkX_218) dX_divide_49 ?_
    refine W.lcmp hx hb dX_divide_52 ?_
    refine lv_if_ne (tgt := 70) hx hb dX_divide_53 (by decide) (fun hc53 => ?_) (fun hc53 => ?_)
    · rw [if_neg hc53] at hfin
      exact B_70 z32.2 x15 x26 x38 H locs ls (lv_sub hl [3, 4, 5, 6, 2, 1, 0] rfl) hI hfin
    rw [if_pos hc53] at hfin
    refine lv_lload hx hb dX_divide_56 (lv_at hl 0 rfl) ?_
    refine lv_ldc2 hx hb X.2.2.2.1 (X.2.2.2.2 _ hkX_19) dX_divide_58 ?_
    refine W.lcmp hx hb dX_divide_61 ?_
    refine lv_if_ne (tgt := 70) hx hb dX_divide_62 (by decide) (fun hc62 => ?_) (fun hc62 => ?_)
    · rw [if_neg hc62] at hfin
      exact B_70 z32.2 x15 x26 x38 H locs ls (lv_sub hl [3, 4, 5, 6, 2, 1, 0] rfl) hI hfin
    rw [if_pos hc62] at hfin
    exact B_65 z32.2 H locs ls (lv_sub hl [3, 4, 5, 6] rfl) hI hfin
  rw [if_neg hc3] at hfin
  refine lv_aload_n hx hb dX_divide_6 rfl (lv_at hl 0 rfl) ?_
  refine lv_iconst (v := (2 : Int32)) hx hb dX_divide_7 (by decide) ?_
  obtain ⟨z8, hz8, hfin⟩ := bd_ob hfin
  refine g_callMv [.int (2 : Int32)] [] X hK x_rcv hI (cx_raise l D cA o q hne u (2 : Int32) z8 hz8) (cwX_X_raise X.2.2.2.2 ⟨Nat.le_of_ble_eq_true rfl, Nat.le_of_ble_eq_true rfl⟩) rfl hl.1 rfl (Nat.le_of_ble_eq_true rfl) dX_divide_8 (fun H locs hI => ?_)
  exact g_vret X hr hlk hK hI hfin dX_divide_11
set_option maxHeartbeats 4000000 in
set_option maxRecDepth 100000 in
theorem cx_shiftedAsBits (l : Launch) (a0 : Int64) (a1 : Int32) : gPl l yX_shiftedAsBits wX_shiftedAsBits (rmF 0 0) [.long a0, .int a1] (x_shiftedAsBits a0 a1) := by
  obtain ⟨z, hz⟩ : ∃ z, z = x_shiftedAsBits a0 a1 := ⟨_, rfl⟩
  rw [← hz]
  have hfin := hz.symm
  clear hz
  refine g_start (plainFor_of_name (by decide)) (Nat.le_of_ble_eq_true rfl) ?_
  intro p e s0 m args below meth c ls X hr hlk hB hl
  have hl : lv_has ls 3 [(0, .long a0), (2, .int a1)] := hl
  have hx := X.1
  have hb := X.2.1
  rw [x_shiftedAsBits] at hfin
  refine lv_iload_n hx hb dX_shiftedAsBits_0 rfl (lv_at hl 1 rfl) ?_
  refine lv_bipush (v := (-36 : Int32)) hx hb dX_shiftedAsBits_1 (by decide) ?_
  refine lv_icmp_le (tgt := 12) hx hb dX_shiftedAsBits_3 (by decide) (fun hc3 => ?_) (fun hc3 => ?_)
  · rw [if_pos hc3] at hfin
    refine lv_lconst (v := (0 : Int64)) hx hb dX_shiftedAsBits_12 (by decide) ?_
    exact g_lretP X hr hlk hfin dX_shiftedAsBits_13
  rw [if_neg hc3] at hfin
  refine lv_iload_n hx hb dX_shiftedAsBits_6 rfl (lv_at hl 1 rfl) ?_
  refine lv_bipush (v := (36 : Int32)) hx hb dX_shiftedAsBits_7 (by decide) ?_
  refine lv_icmp_lt (tgt := 14) hx hb dX_shiftedAsBits_9 (by decide) (fun hc9 => ?_) (fun hc9 => ?_)
  · rw [if_pos hc9] at hfin
    refine lv_iload_n hx hb dX_shiftedAsBits_14 rfl (lv_at hl 1 rfl) ?_
    refine lv_if_ge (tgt := 25) hx hb dX_shiftedAsBits_15 (by decide) (fun hc15 => ?_) (fun hc15 => ?_)
    · rw [if_pos hc15] at hfin
      refine lv_lload_n hx hb dX_shiftedAsBits_25 rfl (lv_at hl 0 rfl) ?_
      refine lv_iload_n hx hb dX_shiftedAsBits_26 rfl (lv_at hl 1 rfl) ?_
      refine lv_lshl hx hb dX_shiftedAsBits_27 rfl ?_
      refine lv_ldc2 hx hb X.2.2.2.1 (X.2.2.2.2 _ hkX_17) dX_shiftedAsBits_28 ?_
      refine lv_land hx hb dX_shiftedAsBits_31 ?_
      exact g_lretP X hr hlk hfin dX_shiftedAsBits_32
    rw [if_neg hc15] at hfin
    refine lv_lload_n hx hb dX_shiftedAsBits_18 rfl (lv_at hl 0 rfl) ?_
    refine lv_iload_n hx hb dX_shiftedAsBits_19 rfl (lv_at hl 1 rfl) ?_
    refine lv_ineg hx hb dX_shiftedAsBits_20 ?_
    refine lv_lushr hx hb dX_shiftedAsBits_21 rfl ?_
    refine lv_goto (tgt := 32) hx hb dX_shiftedAsBits_22 (by decide) ?_
    exact g_lretP X hr hlk hfin dX_shiftedAsBits_32
  rw [if_neg hc9] at hfin
  refine lv_lconst (v := (0 : Int64)) hx hb dX_shiftedAsBits_12 (by decide) ?_
  exact g_lretP X hr hlk hfin dX_shiftedAsBits_13
end
section
set_option maxHeartbeats 4000000 in
set_option maxRecDepth 100000 in
theorem cx_shiftedAsNumber (l : Launch) (D : va_G) (cA : ClassId) (o q : Nat) (hne : va_nd [o, q] = true) (u : XS) (a0 : Int64) (a1 : Int32) (z : Int64 × XS) (hfin : x_shiftedAsNumber u a0 a1 = some z) : gMl l yX_shiftedAsNumber wX_shiftedAsNumber (rmF 1 22) D [(cA, .long)] (XW cA o q) (XA o q) [.ref o, .long a0, .int a1] u z := by
  refine g_start (plainFor_of_name (by decide)) (Nat.le_of_ble_eq_true rfl) ?_
  intro p e s0 m args below meth c ls X hr hlk hB hl
  obtain ⟨hP0, hK⟩ := hB
  have hI : gI D (XW cA o q) (XA o q) s0.heap s0.heap [] u := ⟨hP0, va_S.rf⟩
  have hl : lv_has ls 7 [(0, .ref o), (1, .long a0), (3, .int a1)] := hl
  have hx := X.1
  have hb := X.2.1
  have B_78 : ∀ (u : XS) (H : Heap) (locs : List Loc) (ls : Array Slot), lv_has ls 7 [(0, .ref o), (1, .long a0), (3, .int a1)] → gI D (XW cA o q) (XA o q) s0.heap H locs u → x_shiftedAsNumber_78 a0 a1 u = some z → W p l e (rmF 1 22) s0 m args below meth c H locs 0 0 (MQ below (va_Ql (fun r x => (r, x) = z) (gB D [(cA, .long)] (XW cA o q)) (XA o q)) args s0 0 0 (XA o q)) (F0 m 78 ls []) := by
    intro u H locs ls hl hI hfin
    rw [x_shiftedAsNumber_78] at hfin
    refine lv_lload_n hx hb dX_shiftedAsNumber_78 rfl (lv_at hl 1 rfl) ?_
    refine lv_ldc2 hx hb X.2.2.2.1 (X.2.2.2.2 _ hkX_268) dX_shiftedAsNumber_79 ?_
    refine lv_land hx hb dX_shiftedAsNumber_82 ?_
    refine lv_lload_n hx hb dX_shiftedAsNumber_83 rfl (lv_at hl 1 rfl) ?_
    refine lv_iload_n hx hb dX_shiftedAsNumber_84 rfl (lv_at hl 2 rfl) ?_
    refine g_callPl [.long a0, .int a1] [.long (a0 &&& (34359738368 : Int64))] X (cx_shiftedAsBits l a0 a1) (cwX_X_shiftedAsBits X.2.2.2.2 ⟨Nat.le_of_ble_eq_true rfl, Nat.le_of_ble_eq_true rfl⟩) rfl hl.1 rfl (Nat.le_of_ble_eq_true rfl) dX_shiftedAsNumber_85 ?_
    refine lv_ldc2 hx hb X.2.2.2.1 (X.2.2.2.2 _ hkX_270) dX_shiftedAsNumber_88 ?_
    refine lv_land hx hb dX_shiftedAsNumber_91 ?_
    refine lv_lor hx hb dX_shiftedAsNumber_92 ?_
    exact g_lret X hr hlk hK hI hfin dX_shiftedAsNumber_93
  have B_67 : ∀ (u : XS) (t0 : Int32) (H : Heap) (locs : List Loc) (ls : Array Slot), lv_has ls 7 [(0, .ref o), (1, .long a0), (3, .int a1)] → gI D (XW cA o q) (XA o q) s0.heap H locs u → x_shiftedAsNumber_67 a0 a1 u t0 = some z → W p l e (rmF 1 22) s0 m args below meth c H locs 0 0 (MQ below (va_Ql (fun r x => (r, x) = z) (gB D [(cA, .long)] (XW cA o q)) (XA o q)) args s0 0 0 (XA o q)) (F0 m 67 ls [.int t0]) := by
    intro u t0 H locs ls hl hI hfin
    rw [x_shiftedAsNumber_67] at hfin
    refine lv_istore (lv' := [(6, .int t0), (0, .ref o), (1, .long a0), (3, .int a1)]) hx hb dX_shiftedAsNumber_67 hl (by decide) rfl (fun ls hl => ?_)
    refine lv_iload hx hb dX_shiftedAsNumber_69 (lv_at hl 0 rfl) ?_
    refine lv_if_ne (tgt := 78) hx hb dX_shiftedAsNumber_71 (by decide) (fun hc71 => ?_) (fun hc71 => ?_)
    · rw [if_neg hc71] at hfin
      exact B_78 u H locs ls (lv_sub hl [1, 2, 3] rfl) hI hfin
    rw [if_pos hc71] at hfin
    refine lv_aload_n hx hb dX_shiftedAsNumber_74 rfl (lv_at hl 1 rfl) ?_
    obtain ⟨z75, hz75, hfin⟩ := bd_ob hfin
    refine g_callMv [] [] X hK x_rcv hI (cx_setOverflow l D cA o q hne u z75 hz75) (cwX_X_setOverflow X.2.2.2.2 ⟨Nat.le_of_ble_eq_true rfl, Nat.le_of_ble_eq_true rfl⟩) rfl hl.1 rfl (Nat.le_of_ble_eq_true rfl) dX_shiftedAsNumber_75 (fun H locs hI => ?_)
    exact B_78 z75 H locs ls (lv_sub hl [1, 2, 3] rfl) hI hfin
  rw [x_shiftedAsNumber] at hfin
  refine lv_lload_n hx hb dX_shiftedAsNumber_0 rfl (lv_at hl 1 rfl) ?_
  refine g_callPl [.long a0] [] X (cx_signed l a0) (cwX_X_signed X.2.2.2.2 ⟨Nat.le_of_ble_eq_true rfl, Nat.le_of_ble_eq_true rfl⟩) rfl hl.1 rfl (Nat.le_of_ble_eq_true rfl) dX_shiftedAsNumber_1 ?_
  refine lv_topl (fun x4 e4 => ?_)
  replace hfin := nm_at hfin e4
  refine lv_lstore (lv' := [(4, .long x4), (0, .ref o), (1, .long a0), (3, .int a1)]) hx hb dX_shiftedAsNumber_4 hl (by decide) rfl (fun ls hl => ?_)
  refine lv_iload_n hx hb dX_shiftedAsNumber_6 rfl (lv_at hl 3 rfl) ?_
  refine lv_if_gt (tgt := 25) hx hb dX_shiftedAsNumber_7 (by decide) (fun hc7 => ?_) (fun hc7 => ?_)
  · rw [if_pos hc7] at hfin
    refine lv_iload_n hx hb dX_shiftedAsNumber_25 rfl (lv_at hl 3 rfl) ?_
    refine lv_bipush (v := (36 : Int32)) hx hb dX_shiftedAsNumber_26 (by decide) ?_
    refine lv_icmp_ge (tgt := 55) hx hb dX_shiftedAsNumber_28 (by decide) (fun hc28 => ?_) (fun hc28 => ?_)
    · rw [if_pos hc28] at hfin
      refine lv_lload hx hb dX_shiftedAsNumber_55 (lv_at hl 0 rfl) ?_
      refine lv_lconst (v := (0 : Int64)) hx hb dX_shiftedAsNumber_57 (by decide) ?_
      refine W.lcmp hx hb dX_shiftedAsNumber_58 ?_
      refine lv_if_ne (tgt := 66) hx hb dX_shiftedAsNumber_59 (by decide) (fun hc59 => ?_) (fun hc59 => ?_)
      · rw [if_neg hc59] at hfin
        refine lv_iconst (v := (0 : Int32)) hx hb dX_shiftedAsNumber_66 (by decide) ?_
        exact B_67 u (0 : Int32) s0.heap [] ls (lv_sub hl [1, 2, 3] rfl) hI hfin
      rw [if_pos hc59] at hfin
      refine lv_iconst (v := (1 : Int32)) hx hb dX_shiftedAsNumber_62 (by decide) ?_
      refine lv_goto (tgt := 67) hx hb dX_shiftedAsNumber_63 (by decide) ?_
      exact B_67 u (1 : Int32) s0.heap [] ls (lv_sub hl [1, 2, 3] rfl) hI hfin
    rw [if_neg hc28] at hfin
    refine lv_lload hx hb dX_shiftedAsNumber_31 (lv_at hl 0 rfl) ?_
    refine lv_bipush (v := (35 : Int32)) hx hb dX_shiftedAsNumber_33 (by decide) ?_
    refine lv_iload_n hx hb dX_shiftedAsNumber_35 rfl (lv_at hl 3 rfl) ?_
    refine lv_isub hx hb dX_shiftedAsNumber_36 ?_
    refine lv_lshr hx hb dX_shiftedAsNumber_37 rfl ?_
    refine lv_lload hx hb dX_shiftedAsNumber_38 (lv_at hl 0 rfl) ?_
    refine lv_bipush (v := (36 : Int32)) hx hb dX_shiftedAsNumber_40 (by decide) ?_
    refine lv_lshr hx hb dX_shiftedAsNumber_42 rfl ?_
    refine W.lcmp hx hb dX_shiftedAsNumber_43 ?_
    refine lv_if_ne (tgt := 51) hx hb dX_shiftedAsNumber_44 (by decide) (fun hc44 => ?_) (fun hc44 => ?_)
    · rw [if_neg hc44] at hfin
      refine lv_iconst (v := (0 : Int32)) hx hb dX_shiftedAsNumber_51 (by decide) ?_
      refine lv_goto (tgt := 67) hx hb dX_shiftedAsNumber_52 (by decide) ?_
      exact B_67 u (0 : Int32) s0.heap [] ls (lv_sub hl [1, 2, 3] rfl) hI hfin
    rw [if_pos hc44] at hfin
    refine lv_iconst (v := (1 : Int32)) hx hb dX_shiftedAsNumber_47 (by decide) ?_
    refine lv_goto (tgt := 67) hx hb dX_shiftedAsNumber_48 (by decide) ?_
    exact B_67 u (1 : Int32) s0.heap [] ls (lv_sub hl [1, 2, 3] rfl) hI hfin
  rw [if_neg hc7] at hfin
  refine lv_lload hx hb dX_shiftedAsNumber_10 (lv_at hl 0 rfl) ?_
  refine lv_iload_n hx hb dX_shiftedAsNumber_12 rfl (lv_at hl 3 rfl) ?_
  refine lv_ineg hx hb dX_shiftedAsNumber_13 ?_
  refine lv_bipush (v := (36 : Int32)) hx hb dX_shiftedAsNumber_14 (by decide) ?_
  refine g_callPi [.int (-a1), .int (36 : Int32)] [.long x4] X (cj_min l (-a1) (36 : Int32)) (cwX_J_min X.2.2.2.2 ⟨Nat.le_of_ble_eq_true rfl, Nat.le_of_ble_eq_true rfl⟩) rfl hl.1 rfl (Nat.le_of_ble_eq_true rfl) dX_shiftedAsNumber_16 ?_
  refine lv_lshr hx hb dX_shiftedAsNumber_19 rfl ?_
  refine lv_ldc2 hx hb X.2.2.2.1 (X.2.2.2.2 _ hkX_17) dX_shiftedAsNumber_20 ?_
  refine lv_land hx hb dX_shiftedAsNumber_23 ?_
  exact g_lret X hr hlk hK hI hfin dX_shiftedAsNumber_24
set_option maxHeartbeats 4000000 in
set_option maxRecDepth 100000 in
theorem cx_rotated (l : Launch) (a0 : Int64) (a1 : Int32) : gPl l yX_rotated wX_rotated (rmF 1 22) [.long a0, .int a1] (x_rotated a0 a1) := by
  obtain ⟨z, hz⟩ : ∃ z, z = x_rotated a0 a1 := ⟨_, rfl⟩
  rw [← hz]
  have hfin := hz.symm
  clear hz
  refine g_start (plainFor_of_name (by decide)) (Nat.le_of_ble_eq_true rfl) ?_
  intro p e s0 m args below meth c ls X hr hlk hB hl
  have hl : lv_has ls 4 [(0, .long a0), (2, .int a1)] := hl
  have hx := X.1
  have hb := X.2.1
  rw [x_rotated] at hfin
  refine lv_iload_n hx hb dX_rotated_0 rfl (lv_at hl 1 rfl) ?_
  refine lv_bipush (v := (36 : Int32)) hx hb dX_rotated_1 (by decide) ?_
  refine g_callPi [.int a1, .int (36 : Int32)] [] X (cj_floorMod l a1 (36 : Int32) (by decide)) (cwX_J_floorMod X.2.2.2.2 ⟨Nat.le_of_ble_eq_true rfl, Nat.le_of_ble_eq_true rfl⟩) rfl hl.1 rfl (Nat.le_of_ble_eq_true rfl) dX_rotated_3 ?_
  refine lv_topi (fun x6 e6 => ?_)
  replace hfin := nm_at hfin e6
  refine lv_istore_n (lv' := [(3, .int x6), (0, .long a0), (2, .int a1)]) hx hb dX_rotated_6 rfl hl (by decide) rfl (fun ls hl => ?_)
  refine lv_lload_n hx hb dX_rotated_7 rfl (lv_at hl 1 rfl) ?_
  refine lv_iload_n hx hb dX_rotated_8 rfl (lv_at hl 0 rfl) ?_
  refine lv_lshl hx hb dX_rotated_9 rfl ?_
  refine lv_lload_n hx hb dX_rotated_10 rfl (lv_at hl 1 rfl) ?_
  refine lv_bipush (v := (36 : Int32)) hx hb dX_rotated_11 (by decide) ?_
  refine lv_iload_n hx hb dX_rotated_13 rfl (lv_at hl 0 rfl) ?_
  refine lv_isub hx hb dX_rotated_14 ?_
  refine lv_lushr hx hb dX_rotated_15 rfl ?_
  refine lv_lor hx hb dX_rotated_16 ?_
  refine lv_ldc2 hx hb X.2.2.2.1 (X.2.2.2.2 _ hkX_17) dX_rotated_17 ?_
  refine lv_land hx hb dX_rotated_20 ?_
  exact g_lretP X hr hlk hfin dX_rotated_21
set_option maxHeartbeats 4000000 in
set_option maxRecDepth 100000 in
theorem cx_shift (l : Launch) (D : va_G) (cA : ClassId) (o q : Nat) (hne : va_nd [o, q] = true) (u : XS) (a0 : Int32) (a1 : Int32) (a2 : Int32) (z : XS) (hfin : x_shift u a0 a1 a2 = some z) : gMv l yX_shift wX_shift (rmF 2 48) D [(cA, .long)] (XW cA o q) (XA o q) [.ref o, .int a0, .int a1, .int a2] u z := by
  refine g_start (plainFor_of_name (by decide)) (Nat.le_of_ble_eq_true rfl) ?_
  intro p e s0 m args below meth c ls X hr hlk hB hl
  obtain ⟨hP0, hK⟩ := hB
  have hI : gI D (XW cA o q) (XA o q) s0.heap s0.heap [] u := ⟨hP0, va_S.rf⟩
  have hl : lv_has ls 5 [(0, .ref o), (1, .int a0), (2, .int a1), (3, .int a2)] := hl
  have hx := X.1
  have hb := X.2.1
  have B_19 : ∀ (u : XS) (t0 : Int32) (t1 : Int32) (H : Heap) (locs : List Loc) (ls : Array Slot), lv_has ls 5 [(0, .ref o), (1, .int a0), (2, .int a1), (3, .int a2)] → gI D (XW cA o q) (XA o q) s0.heap H locs u → x_shift_19 a0 a1 a2 u t0 t1 = some z → W p l e (rmF 2 48) s0 m args below meth c H locs 0 0 (MQ below (va_Qv (fun x => x = z) (gB D [(cA, .long)] (XW cA o q)) (XA o q)) args s0 0 0 (XA o q)) (F0 m 19 ls [.int t1, .int t0]) := by
    intro u t0 t1 H locs ls hl hI hfin
    rw [x_shift_19] at hfin
    refine lv_isub hx hb dX_shift_19 ?_
    refine lv_topi (fun x20 e20 => ?_)
    replace hfin := nm_at hfin e20
    refine lv_istore (lv' := [(4, .int x20), (0, .ref o), (1, .int a0), (2, .int a1), (3, .int a2)]) hx hb dX_shift_20 hl (by decide) rfl (fun ls hl => ?_)
    refine lv_iload_n hx hb dX_shift_22 rfl (lv_at hl 2 rfl) ?_
    by_cases hk23_0 : a0 = (160 : Int32)
    · rw [if_pos hk23_0] at hfin
      refine lv_tableIn hx hb dX_shift_23 (off := 25) (tgt := 48) (by rw [hk23_0]; decide) (by rw [hk23_0]; decide) (by rw [hk23_0]; rfl) (by decide) ?_
      refine lv_aload_n hx hb dX_shift_48 rfl (lv_at hl 1 rfl) ?_
      refine lv_iload_n hx hb dX_shift_49 rfl (lv_at hl 3 rfl) ?_
      refine lv_aload_n hx hb dX_shift_50 rfl (lv_at hl 1 rfl) ?_
      refine lv_aload_n hx hb dX_shift_51 rfl (lv_at hl 1 rfl) ?_
      refine xg_words X hK hI.1 dX_shift_52 ?_
      refine lv_iload_n hx hb dX_shift_55 rfl (lv_at hl 3 rfl) ?_
      obtain ⟨hd56, hfin⟩ := ck_if hfin
      refine xl_words X hK hI.1 hd56 dX_shift_56 ?_
      refine lv_iload hx hb dX_shift_57 (lv_at hl 0 rfl) ?_
      obtain ⟨z59, hz59, hfin⟩ := bd_ob hfin
      refine g_callMl [.long (X_words u a1.toNatClampNeg), .int x20] [.int a1, .ref o] X hK x_rcv hI (cx_shiftedAsNumber l D cA o q hne u (X_words u a1.toNatClampNeg) x20 z59 hz59) (cwX_X_shiftedAsNumber X.2.2.2.2 ⟨Nat.le_of_ble_eq_true rfl, Nat.le_of_ble_eq_true rfl⟩) rfl hl.1 rfl (Nat.le_of_ble_eq_true rfl) dX_shift_59 (fun H locs hI => ?_)
      obtain ⟨z62, hz62, hfin⟩ := bd_ob hfin
      refine g_callMv [.int a1, .long z59.1] [] X hK x_rcv hI (cx_setAccumulator l D cA o q hne z59.2 a1 z59.1 z62 hz62) (cwX_X_setAccumulator X.2.2.2.2 ⟨Nat.le_of_ble_eq_true rfl, Nat.le_of_ble_eq_true rfl⟩) rfl hl.1 rfl (Nat.le_of_ble_eq_true rfl) dX_shift_62 (fun H locs hI => ?_)
      exact g_vret X hr hlk hK hI hfin dX_shift_65
    rw [if_neg hk23_0] at hfin
    by_cases hk23_1 : a0 = (161 : Int32)
    · rw [if_pos hk23_1] at hfin
      refine lv_tableIn hx hb dX_shift_23 (off := 43) (tgt := 66) (by rw [hk23_1]; decide) (by rw [hk23_1]; decide) (by rw [hk23_1]; rfl) (by decide) ?_
      refine lv_aload_n hx hb dX_shift_66 rfl (lv_at hl 1 rfl) ?_
      refine lv_iload_n hx hb dX_shift_67 rfl (lv_at hl 3 rfl) ?_
      refine lv_aload_n hx hb dX_shift_68 rfl (lv_at hl 1 rfl) ?_
      refine xg_words X hK hI.1 dX_shift_69 ?_
      refine lv_iload_n hx hb dX_shift_72 rfl (lv_at hl 3 rfl) ?_
      obtain ⟨hd73, hfin⟩ := ck_if hfin
      refine xl_words X hK hI.1 hd73 dX_shift_73 ?_
      refine lv_iload hx hb dX_shift_74 (lv_at hl 0 rfl) ?_
      refine g_callPl [.long (X_words u a1.toNatClampNeg), .int x20] [.int a1, .ref o] X (cx_rotated l (X_words u a1.toNatClampNeg) x20) (cwX_X_rotated X.2.2.2.2 ⟨Nat.le_of_ble_eq_true rfl, Nat.le_of_ble_eq_true rfl⟩) rfl hl.1 rfl (Nat.le_of_ble_eq_true rfl) dX_shift_76 ?_
      obtain ⟨z79, hz79, hfin⟩ := bd_ob hfin
      refine g_callMv [.int a1, .long (x_rotated (X_words u a1.toNatClampNeg) x20)] [] X hK x_rcv hI (cx_setAccumulator l D cA o q hne u a1 (x_rotated (X_words u a1.toNatClampNeg) x20) z79 hz79) (cwX_X_setAccumulator X.2.2.2.2 ⟨Nat.le_of_ble_eq_true rfl, Nat.le_of_ble_eq_true rfl⟩) rfl hl.1 rfl (Nat.le_of_ble_eq_true rfl) dX_shift_79 (fun H locs hI => ?_)
      exact g_vret X hr hlk hK hI hfin dX_shift_82
    rw [if_neg hk23_1] at hfin
    by_cases hk23_2 : a0 = (162 : Int32)
    · rw [if_pos hk23_2] at hfin
      refine lv_tableIn hx hb dX_shift_23 (off := 60) (tgt := 83) (by rw [hk23_2]; decide) (by rw [hk23_2]; decide) (by rw [hk23_2]; rfl) (by decide) ?_
      refine lv_aload_n hx hb dX_shift_83 rfl (lv_at hl 1 rfl) ?_
      refine lv_iload_n hx hb dX_shift_84 rfl (lv_at hl 3 rfl) ?_
      refine lv_aload_n hx hb dX_shift_85 rfl (lv_at hl 1 rfl) ?_
      refine xg_words X hK hI.1 dX_shift_86 ?_
      refine lv_iload_n hx hb dX_shift_89 rfl (lv_at hl 3 rfl) ?_
      obtain ⟨hd90, hfin⟩ := ck_if hfin
      refine xl_words X hK hI.1 hd90 dX_shift_90 ?_
      refine lv_iload hx hb dX_shift_91 (lv_at hl 0 rfl) ?_
      refine g_callPl [.long (X_words u a1.toNatClampNeg), .int x20] [.int a1, .ref o] X (cx_shiftedAsBits l (X_words u a1.toNatClampNeg) x20) (cwX_X_shiftedAsBits X.2.2.2.2 ⟨Nat.le_of_ble_eq_true rfl, Nat.le_of_ble_eq_true rfl⟩) rfl hl.1 rfl (Nat.le_of_ble_eq_true rfl) dX_shift_93 ?_
      obtain ⟨z96, hz96, hfin⟩ := bd_ob hfin
      refine g_callMv [.int a1, .long (x_shiftedAsBits (X_words u a1.toNatClampNeg) x20)] [] X hK x_rcv hI (cx_setAccumulator l D cA o q hne u a1 (x_shiftedAsBits (X_words u a1.toNatClampNeg) x20) z96 hz96) (cwX_X_setAccumulator X.2.2.2.2 ⟨Nat.le_of_ble_eq_true rfl, Nat.le_of_ble_eq_true rfl⟩) rfl hl.1 rfl (Nat.le_of_ble_eq_true rfl) dX_shift_96 (fun H locs hI => ?_)
      exact g_vret X hr hlk hK hI hfin dX_shift_99
    rw [if_neg hk23_2] at hfin
    have hn23_0 := i32_ne (160 : Int32) 160 (by decide) hk23_0
    have hn23_1 := i32_ne (161 : Int32) 161 (by decide) hk23_1
    have hn23_2 := i32_ne (162 : Int32) 162 (by decide) hk23_2
    refine lv_tableOut hx hb dX_shift_23 (tgt := 100) (by omega) (by decide) ?_
    refine lv_aload_n hx hb dX_shift_100 rfl (lv_at hl 1 rfl) ?_
    refine lv_iconst (v := (2 : Int32)) hx hb dX_shift_101 (by decide) ?_
    obtain ⟨z102, hz102, hfin⟩ := bd_ob hfin
    refine g_callMv [.int (2 : Int32)] [] X hK x_rcv hI (cx_raise l D cA o q hne u (2 : Int32) z102 hz102) (cwX_X_raise X.2.2.2.2 ⟨Nat.le_of_ble_eq_true rfl, Nat.le_of_ble_eq_true rfl⟩) rfl hl.1 rfl (Nat.le_of_ble_eq_true rfl) dX_shift_102 (fun H locs hI => ?_)
    exact g_vret X hr hlk hK hI hfin dX_shift_105
  rw [x_shift] at hfin
  refine lv_iload_n hx hb dX_shift_0 rfl (lv_at hl 3 rfl) ?_
  refine lv_sipush (v := (255 : Int32)) hx hb dX_shift_1 (by decide) ?_
  refine lv_iand hx hb dX_shift_4 ?_
  refine lv_iload_n hx hb dX_shift_5 rfl (lv_at hl 3 rfl) ?_
  refine lv_ldc hx hb X.2.2.2.1 (X.2.2.2.2 _ hkX_110) dX_shift_6 ?_
  refine lv_iand hx hb dX_shift_8 ?_
  refine lv_if_eq (tgt := 18) hx hb dX_shift_9 (by decide) (fun hc9 => ?_) (fun hc9 => ?_)
  · rw [if_pos hc9] at hfin
    refine lv_iconst (v := (0 : Int32)) hx hb dX_shift_18 (by decide) ?_
    exact B_19 u (a2 &&& (255 : Int32)) (0 : Int32) s0.heap [] ls (lv_sub hl [0, 1, 2, 3] rfl) hI hfin
  rw [if_neg hc9] at hfin
  refine lv_sipush (v := (256 : Int32)) hx hb dX_shift_12 (by decide) ?_
  refine lv_goto (tgt := 19) hx hb dX_shift_15 (by decide) ?_
  exact B_19 u (a2 &&& (255 : Int32)) (256 : Int32) s0.heap [] ls (lv_sub hl [0, 1, 2, 3] rfl) hI hfin
set_option maxHeartbeats 4000000 in
set_option maxRecDepth 100000 in
theorem cx_exchange (l : Launch) (D : va_G) (cA : ClassId) (o q : Nat) (hne : va_nd [o, q] = true) (u : XS) (a0 : Int32) (a1 : Int32) (z : XS) (hfin : x_exchange u a0 a1 = some z) : gMv l yX_exchange wX_exchange (rmF 2 46) D [(cA, .long)] (XW cA o q) (XA o q) [.ref o, .int a0, .int a1] u z := by
  refine g_start (plainFor_of_name (by decide)) (Nat.le_of_ble_eq_true rfl) ?_
  intro p e s0 m args below meth c ls X hr hlk hB hl
  obtain ⟨hP0, hK⟩ := hB
  have hI : gI D (XW cA o q) (XA o q) s0.heap s0.heap [] u := ⟨hP0, va_S.rf⟩
  have hl : lv_has ls 5 [(0, .ref o), (1, .int a0), (2, .int a1)] := hl
  have hx := X.1
  have hb := X.2.1
  rw [x_exchange] at hfin
  refine lv_aload_n hx hb dX_exchange_0 rfl (lv_at hl 0 rfl) ?_
  refine lv_iload_n hx hb dX_exchange_1 rfl (lv_at hl 2 rfl) ?_
  obtain ⟨z2, hz2, hfin⟩ := bd_ob hfin
  refine g_callMl [.int a1] [] X hK x_rcv hI (cx_read l D cA o q hne u a1 z2 hz2) (cwX_X_read X.2.2.2.2 ⟨Nat.le_of_ble_eq_true rfl, Nat.le_of_ble_eq_true rfl⟩) rfl hl.1 rfl (Nat.le_of_ble_eq_true rfl) dX_exchange_2 (fun H locs hI => ?_)
  refine lv_lstore_n (lv' := [(3, .long z2.1), (0, .ref o), (1, .int a0), (2, .int a1)]) hx hb dX_exchange_5 rfl hl (by decide) rfl (fun ls hl => ?_)
  refine lv_aload_n hx hb dX_exchange_6 rfl (lv_at hl 1 rfl) ?_
  refine lv_iload_n hx hb dX_exchange_7 rfl (lv_at hl 3 rfl) ?_
  refine lv_aload_n hx hb dX_exchange_8 rfl (lv_at hl 1 rfl) ?_
  refine xg_words X hK hI.1 dX_exchange_9 ?_
  refine lv_iload_n hx hb dX_exchange_12 rfl (lv_at hl 2 rfl) ?_
  obtain ⟨hd13, hfin⟩ := ck_if hfin
  refine xl_words X hK hI.1 hd13 dX_exchange_13 ?_
  obtain ⟨z14, hz14, hfin⟩ := bd_ob hfin
  refine g_callMv [.int a1, .long (X_words z2.2 a0.toNatClampNeg)] [] X hK x_rcv hI (cx_write l D cA o q hne z2.2 a1 (X_words z2.2 a0.toNatClampNeg) z14 hz14) (cwX_X_write X.2.2.2.2 ⟨Nat.le_of_ble_eq_true rfl, Nat.le_of_ble_eq_true rfl⟩) rfl hl.1 rfl (Nat.le_of_ble_eq_true rfl) dX_exchange_14 (fun H locs hI => ?_)
  refine lv_aload_n hx hb dX_exchange_17 rfl (lv_at hl 1 rfl) ?_
  refine lv_iload_n hx hb dX_exchange_18 rfl (lv_at hl 2 rfl) ?_
  refine lv_lload_n hx hb dX_exchange_19 rfl (lv_at hl 0 rfl) ?_
  obtain ⟨z20, hz20, hfin⟩ := bd_ob hfin
  refine g_callMv [.int a0, .long z2.1] [] X hK x_rcv hI (cx_setAccumulator l D cA o q hne z14 a0 z2.1 z20 hz20) (cwX_X_setAccumulator X.2.2.2.2 ⟨Nat.le_of_ble_eq_true rfl, Nat.le_of_ble_eq_true rfl⟩) rfl hl.1 rfl (Nat.le_of_ble_eq_true rfl) dX_exchange_20 (fun H locs hI => ?_)
  exact g_vret X hr hlk hK hI hfin dX_exchange_23
set_option maxHeartbeats 4000000 in
set_option maxRecDepth 100000 in
theorem cx_block (l : Launch) (D : va_G) (cA : ClassId) (o q : Nat) (hne : va_nd [o, q] = true) (u : XS) (a0 : Int32) (a1 : Int32) (z : XS) (hfin : x_block u a0 a1 = some z) : gMv l yX_block wX_block (rmF 2 46) D [(cA, .long)] (XW cA o q) (XA o q) [.ref o, .int a0, .int a1] u z := by
  refine g_start (plainFor_of_name (by decide)) (Nat.le_of_ble_eq_true rfl) ?_
  intro p e s0 m args below meth c ls X hr hlk hB hl
  obtain ⟨hP0, hK⟩ := hB
  have hI : gI D (XW cA o q) (XA o q) s0.heap s0.heap [] u := ⟨hP0, va_S.rf⟩
  have hl : lv_has ls 7 [(0, .ref o), (1, .int a0), (2, .int a1)] := hl
  have hx := X.1
  have hb := X.2.1
  have B_36 : ∀ (k : Nat) (u : XS) (v3 : Int32) (v4 : Int32) (v5 : Int32) (v6 : Int32) (H : Heap) (locs : List Loc) (ls : Array Slot), lv_has ls 7 [(0, .ref o), (1, .int a0), (2, .int a1), (3, .int v3), (4, .int v4), (5, .int v5), (6, .int v6)] → gI D (XW cA o q) (XA o q) s0.heap H locs u → x_block_36 a0 a1 k u v3 v4 v5 v6 = some z → W p l e (rmF 2 46) s0 m args below meth c H locs 0 0 (MQ below (va_Qv (fun x => x = z) (gB D [(cA, .long)] (XW cA o q)) (XA o q)) args s0 0 0 (XA o q)) (F0 m 36 ls []) := by
    intro k
    induction k with
    | zero =>
      intro u v3 v4 v5 v6 H locs ls hl hI hfin
      rw [x_block_36] at hfin
      cases hfin
    | succ k IH =>
      intro u v3 v4 v5 v6 H locs ls hl hI hfin
      rw [x_block_36] at hfin
      refine lv_iload hx hb dX_block_36 (lv_at hl 6 rfl) ?_
      refine lv_iload hx hb dX_block_38 (lv_at hl 5 rfl) ?_
      refine lv_icmp_ge (tgt := 79) hx hb dX_block_40 (by decide) (fun hc40 => ?_) (fun hc40 => ?_)
      · rw [if_pos hc40] at hfin
        exact g_vret X hr hlk hK hI hfin dX_block_79
      rw [if_neg hc40] at hfin
      refine lv_aload_n hx hb dX_block_43 rfl (lv_at hl 0 rfl) ?_
      refine xg_trap X hK hI.1 dX_block_44 ?_
      refine lv_if_ne (tgt := 79) hx hb dX_block_47 (by decide) (fun hc47 => ?_) (fun hc47 => ?_)
      · rw [if_neg hc47] at hfin
        exact g_vret X hr hlk hK hI hfin dX_block_79
      rw [if_pos hc47] at hfin
      refine lv_aload_n hx hb dX_block_50 rfl (lv_at hl 0 rfl) ?_
      refine lv_iload hx hb dX_block_51 (lv_at hl 4 rfl) ?_
      refine lv_iload hx hb dX_block_53 (lv_at hl 6 rfl) ?_
      refine lv_iadd hx hb dX_block_55 ?_
      refine g_callPi [.int (v4 + v6)] [.ref o] X (cx_wrapped l (v4 + v6)) (cwX_X_wrapped X.2.2.2.2 ⟨Nat.le_of_ble_eq_true rfl, Nat.le_of_ble_eq_true rfl⟩) rfl hl.1 rfl (Nat.le_of_ble_eq_true rfl) dX_block_56 ?_
      refine lv_aload_n hx hb dX_block_59 rfl (lv_at hl 0 rfl) ?_
      refine lv_iload_n hx hb dX_block_60 rfl (lv_at hl 3 rfl) ?_
      refine lv_iload hx hb dX_block_61 (lv_at hl 6 rfl) ?_
      refine lv_iadd hx hb dX_block_63 ?_
      refine g_callPi [.int (v3 + v6)] [.ref o, .int (x_wrapped (v4 + v6)), .ref o] X (cx_wrapped l (v3 + v6)) (cwX_X_wrapped X.2.2.2.2 ⟨Nat.le_of_ble_eq_true rfl, Nat.le_of_ble_eq_true rfl⟩) rfl hl.1 rfl (Nat.le_of_ble_eq_true rfl) dX_block_64 ?_
      obtain ⟨z67, hz67, hfin⟩ := bd_ob hfin
      refine g_callMl [.int (x_wrapped (v3 + v6))] [.int (x_wrapped (v4 + v6)), .ref o] X hK x_rcv hI (cx_read l D cA o q hne u (x_wrapped (v3 + v6)) z67 hz67) (cwX_X_read X.2.2.2.2 ⟨Nat.le_of_ble_eq_true rfl, Nat.le_of_ble_eq_true rfl⟩) rfl hl.1 rfl (Nat.le_of_ble_eq_true rfl) dX_block_67 (fun H locs hI => ?_)
      obtain ⟨z70, hz70, hfin⟩ := bd_ob hfin
      refine g_callMv [.int (x_wrapped (v4 + v6)), .long z67.1] [] X hK x_rcv hI (cx_write l D cA o q hne z67.2 (x_wrapped (v4 + v6)) z67.1 z70 hz70) (cwX_X_write X.2.2.2.2 ⟨Nat.le_of_ble_eq_true rfl, Nat.le_of_ble_eq_true rfl⟩) rfl hl.1 rfl (Nat.le_of_ble_eq_true rfl) dX_block_70 (fun H locs hI => ?_)
      refine lv_iinc (lv' := [(6, .int (v6 + Int32.ofInt 1)), (0, .ref o), (1, .int a0), (2, .int a1), (3, .int v3), (4, .int v4), (5, .int v5)]) (k := 6) hx hb dX_block_73 hl rfl rfl (by decide) rfl (fun ls hl => ?_)
      refine lv_goto (tgt := 36) hx hb dX_block_76 (by decide) ?_
      exact IH z70 v3 v4 v5 (v6 + Int32.ofInt 1) H locs ls (lv_sub hl [1, 2, 3, 4, 5, 6, 0] rfl) hI hfin
  rw [x_block] at hfin
  refine lv_aload_n hx hb dX_block_0 rfl (lv_at hl 0 rfl) ?_
  refine xg_words X hK hI.1 dX_block_1 ?_
  refine lv_iload_n hx hb dX_block_4 rfl (lv_at hl 1 rfl) ?_
  obtain ⟨hd5, hfin⟩ := ck_if hfin
  refine xl_words X hK hI.1 hd5 dX_block_5 ?_
  refine g_callPi [.long (X_words u a0.toNatClampNeg)] [] X (cx_left l (X_words u a0.toNatClampNeg)) (cwX_X_left X.2.2.2.2 ⟨Nat.le_of_ble_eq_true rfl, Nat.le_of_ble_eq_true rfl⟩) rfl hl.1 rfl (Nat.le_of_ble_eq_true rfl) dX_block_6 ?_
  refine lv_topi (fun x9 e9 => ?_)
  replace hfin := nm_at hfin e9
  refine lv_istore_n (lv' := [(3, .int x9), (0, .ref o), (1, .int a0), (2, .int a1)]) hx hb dX_block_9 rfl hl (by decide) rfl (fun ls hl => ?_)
  refine lv_aload_n hx hb dX_block_10 rfl (lv_at hl 1 rfl) ?_
  refine xg_words X hK hI.1 dX_block_11 ?_
  refine lv_iload_n hx hb dX_block_14 rfl (lv_at hl 2 rfl) ?_
  obtain ⟨hd15, hfin⟩ := ck_if hfin
  refine xl_words X hK hI.1 hd15 dX_block_15 ?_
  refine g_callPi [.long (X_words u a0.toNatClampNeg)] [] X (cx_right l (X_words u a0.toNatClampNeg)) (cwX_X_right X.2.2.2.2 ⟨Nat.le_of_ble_eq_true rfl, Nat.le_of_ble_eq_true rfl⟩) rfl hl.1 rfl (Nat.le_of_ble_eq_true rfl) dX_block_16 ?_
  refine lv_topi (fun x19 e19 => ?_)
  replace hfin := nm_at hfin e19
  refine lv_istore (lv' := [(4, .int x19), (3, .int x9), (0, .ref o), (1, .int a0), (2, .int a1)]) hx hb dX_block_19 hl (by decide) rfl (fun ls hl => ?_)
  refine lv_iload_n hx hb dX_block_21 rfl (lv_at hl 4 rfl) ?_
  refine lv_iload hx hb dX_block_22 (lv_at hl 0 rfl) ?_
  refine lv_isub hx hb dX_block_24 ?_
  refine lv_iconst (v := (0 : Int32)) hx hb dX_block_25 (by decide) ?_
  refine g_callPi [.int (a1 - x19), .int (0 : Int32)] [] X (cj_max l (a1 - x19) (0 : Int32)) (cwX_J_max X.2.2.2.2 ⟨Nat.le_of_ble_eq_true rfl, Nat.le_of_ble_eq_true rfl⟩) rfl hl.1 rfl (Nat.le_of_ble_eq_true rfl) dX_block_26 ?_
  refine lv_iconst (v := (1 : Int32)) hx hb dX_block_29 (by decide) ?_
  refine lv_iadd hx hb dX_block_30 ?_
  refine lv_topi (fun x31 e31 => ?_)
  replace hfin := nm_at hfin e31
  refine lv_istore (lv' := [(5, .int x31), (4, .int x19), (3, .int x9), (0, .ref o), (1, .int a0), (2, .int a1)]) hx hb dX_block_31 hl (by decide) rfl (fun ls hl => ?_)
  refine lv_iconst (v := (0 : Int32)) hx hb dX_block_33 (by decide) ?_
  refine lv_istore (lv' := [(6, .int (0 : Int32)), (5, .int x31), (4, .int x19), (3, .int x9), (0, .ref o), (1, .int a0), (2, .int a1)]) hx hb dX_block_34 hl (by decide) rfl (fun ls hl => ?_)
  exact B_36 300000 u x9 x19 x31 (0 : Int32) s0.heap [] ls (lv_sub hl [4, 5, 6, 3, 2, 1, 0] rfl) hI hfin
set_option maxHeartbeats 4000000 in
set_option maxRecDepth 100000 in
theorem cx_moveHalves (l : Launch) (D : va_G) (cA : ClassId) (o q : Nat) (hne : va_nd [o, q] = true) (u : XS) (a0 : Int32) (a1 : Int32) (z : XS) (hfin : x_moveHalves u a0 a1 = some z) : gMv l yX_moveHalves wX_moveHalves (rmF 1 23) D [(cA, .long)] (XW cA o q) (XA o q) [.ref o, .int a0, .int a1] u z := by
  refine g_start (plainFor_of_name (by decide)) (Nat.le_of_ble_eq_true rfl) ?_
  intro p e s0 m args below meth c ls X hr hlk hB hl
  obtain ⟨hP0, hK⟩ := hB
  have hI : gI D (XW cA o q) (XA o q) s0.heap s0.heap [] u := ⟨hP0, va_S.rf⟩
  have hl : lv_has ls 5 [(0, .ref o), (1, .int a0), (2, .int a1)] := hl
  have hx := X.1
  have hb := X.2.1
  rw [x_moveHalves] at hfin
  refine lv_aload_n hx hb dX_moveHalves_0 rfl (lv_at hl 0 rfl) ?_
  refine xg_words X hK hI.1 dX_moveHalves_1 ?_
  refine lv_iload_n hx hb dX_moveHalves_4 rfl (lv_at hl 1 rfl) ?_
  obtain ⟨hd5, hfin⟩ := ck_if hfin
  refine xl_words X hK hI.1 hd5 dX_moveHalves_5 ?_
  refine lv_topl (fun x6 e6 => ?_)
  replace hfin := nm_at hfin e6
  refine lv_lstore_n (lv' := [(3, .long x6), (0, .ref o), (1, .int a0), (2, .int a1)]) hx hb dX_moveHalves_6 rfl hl (by decide) rfl (fun ls hl => ?_)
  refine lv_aload_n hx hb dX_moveHalves_7 rfl (lv_at hl 1 rfl) ?_
  refine lv_iload_n hx hb dX_moveHalves_8 rfl (lv_at hl 2 rfl) ?_
  refine lv_lload_n hx hb dX_moveHalves_9 rfl (lv_at hl 0 rfl) ?_
  refine g_callPi [.long x6] [.int a0, .ref o] X (cx_left l x6) (cwX_X_left X.2.2.2.2 ⟨Nat.le_of_ble_eq_true rfl, Nat.le_of_ble_eq_true rfl⟩) rfl hl.1 rfl (Nat.le_of_ble_eq_true rfl) dX_moveHalves_10 ?_
  refine lv_iload_n hx hb dX_moveHalves_13 rfl (lv_at hl 3 rfl) ?_
  refine lv_iadd hx hb dX_moveHalves_14 ?_
  refine g_callPi [.int ((x_left x6) + a1)] [.int a0, .ref o] X (cx_wrapped l ((x_left x6) + a1)) (cwX_X_wrapped X.2.2.2.2 ⟨Nat.le_of_ble_eq_true rfl, Nat.le_of_ble_eq_true rfl⟩) rfl hl.1 rfl (Nat.le_of_ble_eq_true rfl) dX_moveHalves_15 ?_
  refine lv_lload_n hx hb dX_moveHalves_18 rfl (lv_at hl 0 rfl) ?_
  refine g_callPi [.long x6] [.int (x_wrapped ((x_left x6) + a1)), .int a0, .ref o] X (cx_right l x6) (cwX_X_right X.2.2.2.2 ⟨Nat.le_of_ble_eq_true rfl, Nat.le_of_ble_eq_true rfl⟩) rfl hl.1 rfl (Nat.le_of_ble_eq_true rfl) dX_moveHalves_19 ?_
  refine lv_iload_n hx hb dX_moveHalves_22 rfl (lv_at hl 3 rfl) ?_
  refine lv_iadd hx hb dX_moveHalves_23 ?_
  refine g_callPi [.int ((x_right x6) + a1)] [.int (x_wrapped ((x_left x6) + a1)), .int a0, .ref o] X (cx_wrapped l ((x_right x6) + a1)) (cwX_X_wrapped X.2.2.2.2 ⟨Nat.le_of_ble_eq_true rfl, Nat.le_of_ble_eq_true rfl⟩) rfl hl.1 rfl (Nat.le_of_ble_eq_true rfl) dX_moveHalves_24 ?_
  refine g_callPl [.int (x_wrapped ((x_left x6) + a1)), .int (x_wrapped ((x_right x6) + a1))] [.int a0, .ref o] X (cx_joined l (x_wrapped ((x_left x6) + a1)) (x_wrapped ((x_right x6) + a1))) (cwX_X_joined X.2.2.2.2 ⟨Nat.le_of_ble_eq_true rfl, Nat.le_of_ble_eq_true rfl⟩) rfl hl.1 rfl (Nat.le_of_ble_eq_true rfl) dX_moveHalves_27 ?_
  obtain ⟨z30, hz30, hfin⟩ := bd_ob hfin
  refine g_callMv [.int a0, .long (x_joined (x_wrapped ((x_left x6) + a1)) (x_wrapped ((x_right x6) + a1)))] [] X hK x_rcv hI (cx_setAccumulator l D cA o q hne u a0 (x_joined (x_wrapped ((x_left x6) + a1)) (x_wrapped ((x_right x6) + a1))) z30 hz30) (cwX_X_setAccumulator X.2.2.2.2 ⟨Nat.le_of_ble_eq_true rfl, Nat.le_of_ble_eq_true rfl⟩) rfl hl.1 rfl (Nat.le_of_ble_eq_true rfl) dX_moveHalves_30 (fun H locs hI => ?_)
  exact g_vret X hr hlk hK hI hfin dX_moveHalves_33
set_option maxHeartbeats 4000000 in
set_option maxRecDepth 100000 in
theorem cx_jumpIf (l : Launch) (D : va_G) (cA : ClassId) (o q : Nat) (hne : va_nd [o, q] = true) (u : XS) (a0 : Int32) (a1 : Int32) (z : XS) (hfin : x_jumpIf u a0 a1 = some z) : gMv l yX_jumpIf wX_jumpIf (rmF 0 0) D [(cA, .long)] (XW cA o q) (XA o q) [.ref o, .int a0, .int a1] u z := by
  refine g_start (plainFor_of_name (by decide)) (Nat.le_of_ble_eq_true rfl) ?_
  intro p e s0 m args below meth c ls X hr hlk hB hl
  obtain ⟨hP0, hK⟩ := hB
  have hI : gI D (XW cA o q) (XA o q) s0.heap s0.heap [] u := ⟨hP0, va_S.rf⟩
  have hl : lv_has ls 3 [(0, .ref o), (1, .int a0), (2, .int a1)] := hl
  have hx := X.1
  have hb := X.2.1
  rw [x_jumpIf] at hfin
  refine lv_iload_n hx hb dX_jumpIf_0 rfl (lv_at hl 1 rfl) ?_
  refine lv_if_eq (tgt := 9) hx hb dX_jumpIf_1 (by decide) (fun hc1 => ?_) (fun hc1 => ?_)
  · rw [if_pos hc1] at hfin
    exact g_vret X hr hlk hK hI hfin dX_jumpIf_9
  rw [if_neg hc1] at hfin
  refine lv_aload_n hx hb dX_jumpIf_4 rfl (lv_at hl 0 rfl) ?_
  refine lv_iload_n hx hb dX_jumpIf_5 rfl (lv_at hl 2 rfl) ?_
  refine xp_pc X hK (x_D hne) hI dX_jumpIf_6 (fun H locs hI => ?_)
  exact g_vret X hr hlk hK hI hfin dX_jumpIf_9
set_option maxHeartbeats 4000000 in
set_option maxRecDepth 100000 in
theorem cx_jumpByAccumulator (l : Launch) (D : va_G) (cA : ClassId) (o q : Nat) (hne : va_nd [o, q] = true) (u : XS) (a0 : Int32) (a1 : Int32) (z : XS) (hfin : x_jumpByAccumulator u a0 a1 = some z) : gMv l yX_jumpByAccumulator wX_jumpByAccumulator (rmF 1 21) D [(cA, .long)] (XW cA o q) (XA o q) [.ref o, .int a0, .int a1] u z := by
  refine g_start (plainFor_of_name (by decide)) (Nat.le_of_ble_eq_true rfl) ?_
  intro p e s0 m args below meth c ls X hr hlk hB hl
  obtain ⟨hP0, hK⟩ := hB
  have hI : gI D (XW cA o q) (XA o q) s0.heap s0.heap [] u := ⟨hP0, va_S.rf⟩
  have hl : lv_has ls 3 [(0, .ref o), (1, .int a0), (2, .int a1)] := hl
  have hx := X.1
  have hb := X.2.1
  have B_55 : ∀ (u : XS) (H : Heap) (locs : List Loc) (ls : Array Slot), lv_has ls 3 [(0, .ref o), (1, .int a0), (2, .int a1)] → gI D (XW cA o q) (XA o q) s0.heap H locs u → x_jumpByAccumulator_55 a0 a1 u = some z → W p l e (rmF 1 21) s0 m args below meth c H locs 0 0 (MQ below (va_Qv (fun x => x = z) (gB D [(cA, .long)] (XW cA o q)) (XA o q)) args s0 0 0 (XA o q)) (F0 m 55 ls []) := by
    intro u H locs ls hl hI hfin
    rw [x_jumpByAccumulator_55] at hfin
    refine lv_aload_n hx hb dX_jumpByAccumulator_55 rfl (lv_at hl 0 rfl) ?_
    refine lv_iconst (v := (2 : Int32)) hx hb dX_jumpByAccumulator_56 (by decide) ?_
    obtain ⟨z57, hz57, hfin⟩ := bd_ob hfin
    refine g_callMv [.int (2 : Int32)] [] X hK x_rcv hI (cx_raise l D cA o q hne u (2 : Int32) z57 hz57) (cwX_X_raise X.2.2.2.2 ⟨Nat.le_of_ble_eq_true rfl, Nat.le_of_ble_eq_true rfl⟩) rfl hl.1 rfl (Nat.le_of_ble_eq_true rfl) dX_jumpByAccumulator_57 (fun H locs hI => ?_)
    exact g_vret X hr hlk hK hI hfin dX_jumpByAccumulator_60
  rw [x_jumpByAccumulator] at hfin
  refine lv_iload_n hx hb dX_jumpByAccumulator_0 rfl (lv_at hl 1 rfl) ?_
  refine lv_if_ne (tgt := 12) hx hb dX_jumpByAccumulator_1 (by decide) (fun hc1 => ?_) (fun hc1 => ?_)
  · rw [if_neg hc1] at hfin
    refine lv_iload_n hx hb dX_jumpByAccumulator_12 rfl (lv_at hl 1 rfl) ?_
    refine lv_iconst (v := (1 : Int32)) hx hb dX_jumpByAccumulator_13 (by decide) ?_
    refine lv_icmp_ne (tgt := 30) hx hb dX_jumpByAccumulator_14 (by decide) (fun hc14 => ?_) (fun hc14 => ?_)
    · rw [if_neg hc14] at hfin
      refine lv_iload_n hx hb dX_jumpByAccumulator_30 rfl (lv_at hl 1 rfl) ?_
      refine lv_iconst (v := (4 : Int32)) hx hb dX_jumpByAccumulator_31 (by decide) ?_
      refine lv_icmp_ne (tgt := 55) hx hb dX_jumpByAccumulator_32 (by decide) (fun hc32 => ?_) (fun hc32 => ?_)
      · rw [if_neg hc32] at hfin
        exact B_55 u s0.heap [] ls (lv_sub hl [0, 1, 2] rfl) hI hfin
      rw [if_pos hc32] at hfin
      refine lv_aload_n hx hb dX_jumpByAccumulator_35 rfl (lv_at hl 0 rfl) ?_
      refine xg_user X hK hI.1 dX_jumpByAccumulator_36 ?_
      refine lv_if_ne (tgt := 55) hx hb dX_jumpByAccumulator_39 (by decide) (fun hc39 => ?_) (fun hc39 => ?_)
      · rw [if_neg hc39] at hfin
        exact B_55 u s0.heap [] ls (lv_sub hl [0, 1, 2] rfl) hI hfin
      rw [if_pos hc39] at hfin
      refine lv_aload_n hx hb dX_jumpByAccumulator_42 rfl (lv_at hl 0 rfl) ?_
      refine lv_iload_n hx hb dX_jumpByAccumulator_43 rfl (lv_at hl 2 rfl) ?_
      refine xp_pc X hK (x_D hne) hI dX_jumpByAccumulator_44 (fun H locs hI => ?_)
      refine lv_aload_n hx hb dX_jumpByAccumulator_47 rfl (lv_at hl 0 rfl) ?_
      refine lv_iconst (v := (1 : Int32)) hx hb dX_jumpByAccumulator_48 (by decide) ?_
      refine xp_stopped X hK (x_D hne) hI (Or.inr rfl) dX_jumpByAccumulator_49 (fun H locs hI => ?_)
      refine lv_goto (tgt := 60) hx hb dX_jumpByAccumulator_52 (by decide) ?_
      exact g_vret X hr hlk hK hI hfin dX_jumpByAccumulator_60
    rw [if_pos hc14] at hfin
    refine lv_aload_n hx hb dX_jumpByAccumulator_17 rfl (lv_at hl 0 rfl) ?_
    refine lv_iload_n hx hb dX_jumpByAccumulator_18 rfl (lv_at hl 2 rfl) ?_
    refine xp_pc X hK (x_D hne) hI dX_jumpByAccumulator_19 (fun H locs hI => ?_)
    refine lv_aload_n hx hb dX_jumpByAccumulator_22 rfl (lv_at hl 0 rfl) ?_
    refine lv_iconst (v := (1 : Int32)) hx hb dX_jumpByAccumulator_23 (by decide) ?_
    refine xp_user X hK (x_D hne) hI (Or.inr rfl) dX_jumpByAccumulator_24 (fun H locs hI => ?_)
    refine lv_goto (tgt := 60) hx hb dX_jumpByAccumulator_27 (by decide) ?_
    exact g_vret X hr hlk hK hI hfin dX_jumpByAccumulator_60
  rw [if_pos hc1] at hfin
  refine lv_aload_n hx hb dX_jumpByAccumulator_4 rfl (lv_at hl 0 rfl) ?_
  refine lv_iload_n hx hb dX_jumpByAccumulator_5 rfl (lv_at hl 2 rfl) ?_
  refine xp_pc X hK (x_D hne) hI dX_jumpByAccumulator_6 (fun H locs hI => ?_)
  refine lv_goto (tgt := 60) hx hb dX_jumpByAccumulator_9 (by decide) ?_
  exact g_vret X hr hlk hK hI hfin dX_jumpByAccumulator_60
set_option maxHeartbeats 4000000 in
set_option maxRecDepth 100000 in
theorem cx_exchangeOrJump (l : Launch) (D : va_G) (cA : ClassId) (o q : Nat) (hne : va_nd [o, q] = true) (u : XS) (a0 : Int32) (a1 : Int32) (a2 : Int32) (z : XS) (hfin : x_exchangeOrJump u a0 a1 a2 = some z) : gMv l yX_exchangeOrJump wX_exchangeOrJump (rmF 3 72) D [(cA, .long)] (XW cA o q) (XA o q) [.ref o, .int a0, .int a1, .int a2] u z := by
  refine g_start (plainFor_of_name (by decide)) (Nat.le_of_ble_eq_true rfl) ?_
  intro p e s0 m args below meth c ls X hr hlk hB hl
  obtain ⟨hP0, hK⟩ := hB
  have hI : gI D (XW cA o q) (XA o q) s0.heap s0.heap [] u := ⟨hP0, va_S.rf⟩
  have hl : lv_has ls 4 [(0, .ref o), (1, .int a0), (2, .int a1), (3, .int a2)] := hl
  have hx := X.1
  have hb := X.2.1
  have B_76 : ∀ (u : XS) (t1 : Int32) (H : Heap) (locs : List Loc) (ls : Array Slot), lv_has ls 4 [(0, .ref o), (1, .int a0), (2, .int a1), (3, .int a2)] → gI D (XW cA o q) (XA o q) s0.heap H locs u → x_exchangeOrJump_76 a0 a1 a2 u t1 = some z → W p l e (rmF 3 72) s0 m args below meth c H locs 0 0 (MQ below (va_Qv (fun x => x = z) (gB D [(cA, .long)] (XW cA o q)) (XA o q)) args s0 0 0 (XA o q)) (F0 m 76 ls [.int t1, .ref o]) := by
    intro u t1 H locs ls hl hI hfin
    rw [x_exchangeOrJump_76] at hfin
    refine lv_iload_n hx hb dX_exchangeOrJump_76 rfl (lv_at hl 3 rfl) ?_
    obtain ⟨z77, hz77, hfin⟩ := bd_ob hfin
    refine g_callMv [.int t1, .int a2] [] X hK x_rcv hI (cx_jumpIf l D cA o q hne u t1 a2 z77 hz77) (cwX_X_jumpIf X.2.2.2.2 ⟨Nat.le_of_ble_eq_true rfl, Nat.le_of_ble_eq_true rfl⟩) rfl hl.1 rfl (Nat.le_of_ble_eq_true rfl) dX_exchangeOrJump_77 (fun H locs hI => ?_)
    exact g_vret X hr hlk hK hI hfin dX_exchangeOrJump_80
  have B_107 : ∀ (u : XS) (t1 : Int32) (H : Heap) (locs : List Loc) (ls : Array Slot), lv_has ls 4 [(0, .ref o), (1, .int a0), (2, .int a1), (3, .int a2)] → gI D (XW cA o q) (XA o q) s0.heap H locs u → x_exchangeOrJump_107 a0 a1 a2 u t1 = some z → W p l e (rmF 3 72) s0 m args below meth c H locs 0 0 (MQ below (va_Qv (fun x => x = z) (gB D [(cA, .long)] (XW cA o q)) (XA o q)) args s0 0 0 (XA o q)) (F0 m 107 ls [.int t1, .ref o]) := by
    intro u t1 H locs ls hl hI hfin
    rw [x_exchangeOrJump_107] at hfin
    refine lv_iload_n hx hb dX_exchangeOrJump_107 rfl (lv_at hl 3 rfl) ?_
    obtain ⟨z108, hz108, hfin⟩ := bd_ob hfin
    refine g_callMv [.int t1, .int a2] [] X hK x_rcv hI (cx_jumpIf l D cA o q hne u t1 a2 z108 hz108) (cwX_X_jumpIf X.2.2.2.2 ⟨Nat.le_of_ble_eq_true rfl, Nat.le_of_ble_eq_true rfl⟩) rfl hl.1 rfl (Nat.le_of_ble_eq_true rfl) dX_exchangeOrJump_108 (fun H locs hI => ?_)
    exact g_vret X hr hlk hK hI hfin dX_exchangeOrJump_111
  rw [x_exchangeOrJump] at hfin
  refine lv_iload_n hx hb dX_exchangeOrJump_0 rfl (lv_at hl 1 rfl) ?_
  by_cases hk1_0 : a0 = (168 : Int32)
  · rw [if_pos hk1_0] at hfin
    refine lv_tableIn hx hb dX_exchangeOrJump_1 (off := 35) (tgt := 36) (by rw [hk1_0]; decide) (by rw [hk1_0]; decide) (by rw [hk1_0]; rfl) (by decide) ?_
    refine lv_aload_n hx hb dX_exchangeOrJump_36 rfl (lv_at hl 0 rfl) ?_
    refine lv_iload_n hx hb dX_exchangeOrJump_37 rfl (lv_at hl 2 rfl) ?_
    refine lv_iload_n hx hb dX_exchangeOrJump_38 rfl (lv_at hl 3 rfl) ?_
    obtain ⟨z39, hz39, hfin⟩ := bd_ob hfin
    refine g_callMv [.int a1, .int a2] [] X hK x_rcv hI (cx_exchange l D cA o q hne u a1 a2 z39 hz39) (cwX_X_exchange X.2.2.2.2 ⟨Nat.le_of_ble_eq_true rfl, Nat.le_of_ble_eq_true rfl⟩) rfl hl.1 rfl (Nat.le_of_ble_eq_true rfl) dX_exchangeOrJump_39 (fun H locs hI => ?_)
    exact g_vret X hr hlk hK hI hfin dX_exchangeOrJump_42
  rw [if_neg hk1_0] at hfin
  by_cases hk1_1 : a0 = (169 : Int32)
  · rw [if_pos hk1_1] at hfin
    refine lv_tableIn hx hb dX_exchangeOrJump_1 (off := 42) (tgt := 43) (by rw [hk1_1]; decide) (by rw [hk1_1]; decide) (by rw [hk1_1]; rfl) (by decide) ?_
    refine lv_aload_n hx hb dX_exchangeOrJump_43 rfl (lv_at hl 0 rfl) ?_
    refine lv_iload_n hx hb dX_exchangeOrJump_44 rfl (lv_at hl 2 rfl) ?_
    refine lv_iload_n hx hb dX_exchangeOrJump_45 rfl (lv_at hl 3 rfl) ?_
    obtain ⟨z46, hz46, hfin⟩ := bd_ob hfin
    refine g_callMv [.int a1, .int a2] [] X hK x_rcv hI (cx_block l D cA o q hne u a1 a2 z46 hz46) (cwX_X_block X.2.2.2.2 ⟨Nat.le_of_ble_eq_true rfl, Nat.le_of_ble_eq_true rfl⟩) rfl hl.1 rfl (Nat.le_of_ble_eq_true rfl) dX_exchangeOrJump_46 (fun H locs hI => ?_)
    exact g_vret X hr hlk hK hI hfin dX_exchangeOrJump_49
  rw [if_neg hk1_1] at hfin
  by_cases hk1_2 : a0 = (170 : Int32)
  · rw [if_pos hk1_2] at hfin
    refine lv_tableIn hx hb dX_exchangeOrJump_1 (off := 49) (tgt := 50) (by rw [hk1_2]; decide) (by rw [hk1_2]; decide) (by rw [hk1_2]; rfl) (by decide) ?_
    refine lv_aload_n hx hb dX_exchangeOrJump_50 rfl (lv_at hl 0 rfl) ?_
    refine lv_iload_n hx hb dX_exchangeOrJump_51 rfl (lv_at hl 2 rfl) ?_
    refine lv_iconst (v := (1 : Int32)) hx hb dX_exchangeOrJump_52 (by decide) ?_
    obtain ⟨z53, hz53, hfin⟩ := bd_ob hfin
    refine g_callMv [.int a1, .int (1 : Int32)] [] X hK x_rcv hI (cx_moveHalves l D cA o q hne u a1 (1 : Int32) z53 hz53) (cwX_X_moveHalves X.2.2.2.2 ⟨Nat.le_of_ble_eq_true rfl, Nat.le_of_ble_eq_true rfl⟩) rfl hl.1 rfl (Nat.le_of_ble_eq_true rfl) dX_exchangeOrJump_53 (fun H locs hI => ?_)
    refine lv_aload_n hx hb dX_exchangeOrJump_56 rfl (lv_at hl 0 rfl) ?_
    refine lv_aload_n hx hb dX_exchangeOrJump_57 rfl (lv_at hl 0 rfl) ?_
    refine xg_words X hK hI.1 dX_exchangeOrJump_58 ?_
    refine lv_iload_n hx hb dX_exchangeOrJump_61 rfl (lv_at hl 2 rfl) ?_
    obtain ⟨hd62, hfin⟩ := ck_if hfin
    refine xl_words X hK hI.1 hd62 dX_exchangeOrJump_62 ?_
    refine g_callPl [.long (X_words z53 a1.toNatClampNeg)] [.ref o] X (cx_signed l (X_words z53 a1.toNatClampNeg)) (cwX_X_signed X.2.2.2.2 ⟨Nat.le_of_ble_eq_true rfl, Nat.le_of_ble_eq_true rfl⟩) rfl hl.1 rfl (Nat.le_of_ble_eq_true rfl) dX_exchangeOrJump_63 ?_
    refine lv_lconst (v := (0 : Int64)) hx hb dX_exchangeOrJump_66 (by decide) ?_
    refine W.lcmp hx hb dX_exchangeOrJump_67 ?_
    refine lv_if_lt (tgt := 75) hx hb dX_exchangeOrJump_68 (by decide) (fun hc68 => ?_) (fun hc68 => ?_)
    · rw [if_pos hc68] at hfin
      refine lv_iconst (v := (0 : Int32)) hx hb dX_exchangeOrJump_75 (by decide) ?_
      exact B_76 z53 (0 : Int32) H locs ls (lv_sub hl [0, 1, 2, 3] rfl) hI hfin
    rw [if_neg hc68] at hfin
    refine lv_iconst (v := (1 : Int32)) hx hb dX_exchangeOrJump_71 (by decide) ?_
    refine lv_goto (tgt := 76) hx hb dX_exchangeOrJump_72 (by decide) ?_
    exact B_76 z53 (1 : Int32) H locs ls (lv_sub hl [0, 1, 2, 3] rfl) hI hfin
  rw [if_neg hk1_2] at hfin
  by_cases hk1_3 : a0 = (171 : Int32)
  · rw [if_pos hk1_3] at hfin
    refine lv_tableIn hx hb dX_exchangeOrJump_1 (off := 80) (tgt := 81) (by rw [hk1_3]; decide) (by rw [hk1_3]; decide) (by rw [hk1_3]; rfl) (by decide) ?_
    refine lv_aload_n hx hb dX_exchangeOrJump_81 rfl (lv_at hl 0 rfl) ?_
    refine lv_iload_n hx hb dX_exchangeOrJump_82 rfl (lv_at hl 2 rfl) ?_
    refine lv_iconst (v := (1 : Int32)) hx hb dX_exchangeOrJump_83 (by decide) ?_
    obtain ⟨z84, hz84, hfin⟩ := bd_ob hfin
    refine g_callMv [.int a1, .int (1 : Int32)] [] X hK x_rcv hI (cx_moveHalves l D cA o q hne u a1 (1 : Int32) z84 hz84) (cwX_X_moveHalves X.2.2.2.2 ⟨Nat.le_of_ble_eq_true rfl, Nat.le_of_ble_eq_true rfl⟩) rfl hl.1 rfl (Nat.le_of_ble_eq_true rfl) dX_exchangeOrJump_84 (fun H locs hI => ?_)
    refine lv_aload_n hx hb dX_exchangeOrJump_87 rfl (lv_at hl 0 rfl) ?_
    refine lv_aload_n hx hb dX_exchangeOrJump_88 rfl (lv_at hl 0 rfl) ?_
    refine xg_words X hK hI.1 dX_exchangeOrJump_89 ?_
    refine lv_iload_n hx hb dX_exchangeOrJump_92 rfl (lv_at hl 2 rfl) ?_
    obtain ⟨hd93, hfin⟩ := ck_if hfin
    refine xl_words X hK hI.1 hd93 dX_exchangeOrJump_93 ?_
    refine g_callPl [.long (X_words z84 a1.toNatClampNeg)] [.ref o] X (cx_signed l (X_words z84 a1.toNatClampNeg)) (cwX_X_signed X.2.2.2.2 ⟨Nat.le_of_ble_eq_true rfl, Nat.le_of_ble_eq_true rfl⟩) rfl hl.1 rfl (Nat.le_of_ble_eq_true rfl) dX_exchangeOrJump_94 ?_
    refine lv_lconst (v := (0 : Int64)) hx hb dX_exchangeOrJump_97 (by decide) ?_
    refine W.lcmp hx hb dX_exchangeOrJump_98 ?_
    refine lv_if_ge (tgt := 106) hx hb dX_exchangeOrJump_99 (by decide) (fun hc99 => ?_) (fun hc99 => ?_)
    · rw [if_pos hc99] at hfin
      refine lv_iconst (v := (0 : Int32)) hx hb dX_exchangeOrJump_106 (by decide) ?_
      exact B_107 z84 (0 : Int32) H locs ls (lv_sub hl [0, 1, 2, 3] rfl) hI hfin
    rw [if_neg hc99] at hfin
    refine lv_iconst (v := (1 : Int32)) hx hb dX_exchangeOrJump_102 (by decide) ?_
    refine lv_goto (tgt := 107) hx hb dX_exchangeOrJump_103 (by decide) ?_
    exact B_107 z84 (1 : Int32) H locs ls (lv_sub hl [0, 1, 2, 3] rfl) hI hfin
  rw [if_neg hk1_3] at hfin
  by_cases hk1_4 : a0 = (172 : Int32)
  · rw [if_pos hk1_4] at hfin
    refine lv_tableIn hx hb dX_exchangeOrJump_1 (off := 111) (tgt := 112) (by rw [hk1_4]; decide) (by rw [hk1_4]; decide) (by rw [hk1_4]; rfl) (by decide) ?_
    refine lv_aload_n hx hb dX_exchangeOrJump_112 rfl (lv_at hl 0 rfl) ?_
    refine lv_iload_n hx hb dX_exchangeOrJump_113 rfl (lv_at hl 2 rfl) ?_
    refine lv_iload_n hx hb dX_exchangeOrJump_114 rfl (lv_at hl 3 rfl) ?_
    obtain ⟨z115, hz115, hfin⟩ := bd_ob hfin
    refine g_callMv [.int a1, .int a2] [] X hK x_rcv hI (cx_jumpByAccumulator l D cA o q hne u a1 a2 z115 hz115) (cwX_X_jumpByAccumulator X.2.2.2.2 ⟨Nat.le_of_ble_eq_true rfl, Nat.le_of_ble_eq_true rfl⟩) rfl hl.1 rfl (Nat.le_of_ble_eq_true rfl) dX_exchangeOrJump_115 (fun H locs hI => ?_)
    exact g_vret X hr hlk hK hI hfin dX_exchangeOrJump_118
  rw [if_neg hk1_4] at hfin
  have hn1_0 := i32_ne (168 : Int32) 168 (by decide) hk1_0
  have hn1_1 := i32_ne (169 : Int32) 169 (by decide) hk1_1
  have hn1_2 := i32_ne (170 : Int32) 170 (by decide) hk1_2
  have hn1_3 := i32_ne (171 : Int32) 171 (by decide) hk1_3
  have hn1_4 := i32_ne (172 : Int32) 172 (by decide) hk1_4
  refine lv_tableOut hx hb dX_exchangeOrJump_1 (tgt := 119) (by omega) (by decide) ?_
  refine lv_aload_n hx hb dX_exchangeOrJump_119 rfl (lv_at hl 0 rfl) ?_
  refine lv_iconst (v := (2 : Int32)) hx hb dX_exchangeOrJump_120 (by decide) ?_
  obtain ⟨z121, hz121, hfin⟩ := bd_ob hfin
  refine g_callMv [.int (2 : Int32)] [] X hK x_rcv hI (cx_raise l D cA o q hne u (2 : Int32) z121 hz121) (cwX_X_raise X.2.2.2.2 ⟨Nat.le_of_ble_eq_true rfl, Nat.le_of_ble_eq_true rfl⟩) rfl hl.1 rfl (Nat.le_of_ble_eq_true rfl) dX_exchangeOrJump_121 (fun H locs hI => ?_)
  exact g_vret X hr hlk hK hI hfin dX_exchangeOrJump_124
end
section
set_option maxHeartbeats 4000000 in
set_option maxRecDepth 100000 in
theorem cx_growStack (l : Launch) (D : va_G) (cA : ClassId) (o q : Nat) (hne : va_nd [o, q] = true) (u : XS) (a0 : Int32) (z : XS) (hfin : x_growStack u a0 = some z) : gMv l yX_growStack wX_growStack (rmF 2 47) D [(cA, .long)] (XW cA o q) (XA o q) [.ref o, .int a0] u z := by
  refine g_start (plainFor_of_name (by decide)) (Nat.le_of_ble_eq_true rfl) ?_
  intro p e s0 m args below meth c ls X hr hlk hB hl
  obtain ⟨hP0, hK⟩ := hB
  have hI : gI D (XW cA o q) (XA o q) s0.heap s0.heap [] u := ⟨hP0, va_S.rf⟩
  have hl : lv_has ls 2 [(0, .ref o), (1, .int a0)] := hl
  have hx := X.1
  have hb := X.2.1
  rw [x_growStack] at hfin
  refine lv_aload_n hx hb dX_growStack_0 rfl (lv_at hl 0 rfl) ?_
  refine lv_iload_n hx hb dX_growStack_1 rfl (lv_at hl 1 rfl) ?_
  refine lv_iconst (v := (1 : Int32)) hx hb dX_growStack_2 (by decide) ?_
  obtain ⟨z3, hz3, hfin⟩ := bd_ob hfin
  refine g_callMv [.int a0, .int (1 : Int32)] [] X hK x_rcv hI (cx_moveHalves l D cA o q hne u a0 (1 : Int32) z3 hz3) (cwX_X_moveHalves X.2.2.2.2 ⟨Nat.le_of_ble_eq_true rfl, Nat.le_of_ble_eq_true rfl⟩) rfl hl.1 rfl (Nat.le_of_ble_eq_true rfl) dX_growStack_3 (fun H locs hI => ?_)
  refine lv_aload_n hx hb dX_growStack_6 rfl (lv_at hl 0 rfl) ?_
  refine xg_words X hK hI.1 dX_growStack_7 ?_
  refine lv_iload_n hx hb dX_growStack_10 rfl (lv_at hl 1 rfl) ?_
  obtain ⟨hd11, hfin⟩ := ck_if hfin
  refine xl_words X hK hI.1 hd11 dX_growStack_11 ?_
  refine g_callPi [.long (X_words z3 a0.toNatClampNeg)] [] X (cx_left l (X_words z3 a0.toNatClampNeg)) (cwX_X_left X.2.2.2.2 ⟨Nat.le_of_ble_eq_true rfl, Nat.le_of_ble_eq_true rfl⟩) rfl hl.1 rfl (Nat.le_of_ble_eq_true rfl) dX_growStack_12 ?_
  refine lv_if_ne (tgt := 22) hx hb dX_growStack_15 (by decide) (fun hc15 => ?_) (fun hc15 => ?_)
  · rw [if_neg hc15] at hfin
    exact g_vret X hr hlk hK hI hfin dX_growStack_22
  rw [if_pos hc15] at hfin
  refine lv_aload_n hx hb dX_growStack_18 rfl (lv_at hl 0 rfl) ?_
  obtain ⟨z19, hz19, hfin⟩ := bd_ob hfin
  refine g_callMv [] [] X hK x_rcv hI (cx_setOverflow l D cA o q hne z3 z19 hz19) (cwX_X_setOverflow X.2.2.2.2 ⟨Nat.le_of_ble_eq_true rfl, Nat.le_of_ble_eq_true rfl⟩) rfl hl.1 rfl (Nat.le_of_ble_eq_true rfl) dX_growStack_19 (fun H locs hI => ?_)
  exact g_vret X hr hlk hK hI hfin dX_growStack_22
set_option maxHeartbeats 4000000 in
set_option maxRecDepth 100000 in
theorem cx_flags (l : Launch) (D : va_G) (cA : ClassId) (o q : Nat) (u : XS)  : gRi l yX_flags wX_flags (rmF 0 0) D [(cA, .long)] (XW cA o q) [.ref o] u (x_flags u) := by
  obtain ⟨z, hz⟩ : ∃ z, z = x_flags u := ⟨_, rfl⟩
  rw [← hz]
  have hfin := hz.symm
  clear hz
  refine g_start (plainFor_of_name (by decide)) (Nat.le_of_ble_eq_true rfl) ?_
  intro p e s0 m args below meth c ls X hr hlk hB hl
  obtain ⟨hP0, hK⟩ := hB
  have hl : lv_has ls 1 [(0, .ref o)] := hl
  have hx := X.1
  have hb := X.2.1
  have B_13 : ∀ (t0 : Int32) (ls : Array Slot), lv_has ls 1 [(0, .ref o)] → x_flags_13 u t0 = z → W p l e (rmF 0 0) s0 m args below meth c s0.heap [] 0 0 (MQ below (vp_Si (fun r => r = z)) args s0 0 0 (fun _ => False)) (F0 m 13 ls [.int t0]) := by
    intro t0 ls hl hfin
    rw [x_flags_13] at hfin
    refine lv_aload_n hx hb dX_flags_13 rfl (lv_at hl 0 rfl) ?_
    refine xg_user X hK hP0 dX_flags_14 ?_
    refine lv_if_eq (tgt := 26) hx hb dX_flags_17 (by decide) (fun hc17 => ?_) (fun hc17 => ?_)
    · rw [if_pos hc17] at hfin
      refine lv_iconst (v := (0 : Int32)) hx hb dX_flags_26 (by decide) ?_
      refine lv_ior hx hb dX_flags_27 ?_
      exact g_iretP X hr hlk hfin dX_flags_28
    rw [if_neg hc17] at hfin
    refine lv_sipush (v := (4096 : Int32)) hx hb dX_flags_20 (by decide) ?_
    refine lv_goto (tgt := 27) hx hb dX_flags_23 (by decide) ?_
    refine lv_ior hx hb dX_flags_27 ?_
    exact g_iretP X hr hlk hfin dX_flags_28
  rw [x_flags] at hfin
  refine lv_aload_n hx hb dX_flags_0 rfl (lv_at hl 0 rfl) ?_
  refine xg_overflow X hK hP0 dX_flags_1 ?_
  refine lv_if_eq (tgt := 12) hx hb dX_flags_4 (by decide) (fun hc4 => ?_) (fun hc4 => ?_)
  · rw [if_pos hc4] at hfin
    refine lv_iconst (v := (0 : Int32)) hx hb dX_flags_12 (by decide) ?_
    exact B_13 (0 : Int32) ls (lv_sub hl [0] rfl) hfin
  rw [if_neg hc4] at hfin
  refine lv_ldc hx hb X.2.2.2.1 (X.2.2.2.2 _ hkX_110) dX_flags_7 ?_
  refine lv_goto (tgt := 13) hx hb dX_flags_9 (by decide) ?_
  exact B_13 (131072 : Int32) ls (lv_sub hl [0] rfl) hfin
set_option maxHeartbeats 4000000 in
set_option maxRecDepth 100000 in
theorem cx_pcWord (l : Launch) (D : va_G) (cA : ClassId) (o q : Nat) (u : XS)  : gRl l yX_pcWord wX_pcWord (rmF 1 21) D [(cA, .long)] (XW cA o q) [.ref o] u (x_pcWord u) := by
  obtain ⟨z, hz⟩ : ∃ z, z = x_pcWord u := ⟨_, rfl⟩
  rw [← hz]
  have hfin := hz.symm
  clear hz
  refine g_start (plainFor_of_name (by decide)) (Nat.le_of_ble_eq_true rfl) ?_
  intro p e s0 m args below meth c ls X hr hlk hB hl
  obtain ⟨hP0, hK⟩ := hB
  have hl : lv_has ls 1 [(0, .ref o)] := hl
  have hx := X.1
  have hb := X.2.1
  rw [x_pcWord] at hfin
  refine lv_aload_n hx hb dX_pcWord_0 rfl (lv_at hl 0 rfl) ?_
  refine g_callRi [] [] X hK x_rcv hP0 (cx_flags l D cA o q u) (cwX_X_flags X.2.2.2.2 ⟨Nat.le_of_ble_eq_true rfl, Nat.le_of_ble_eq_true rfl⟩) rfl hl.1 rfl (Nat.le_of_ble_eq_true rfl) dX_pcWord_1 ?_
  refine lv_aload_n hx hb dX_pcWord_4 rfl (lv_at hl 0 rfl) ?_
  refine xg_pc X hK hP0 dX_pcWord_5 ?_
  refine g_callPl [.int (x_flags u), .int (X_pc u)] [] X (cx_joined l (x_flags u) (X_pc u)) (cwX_X_joined X.2.2.2.2 ⟨Nat.le_of_ble_eq_true rfl, Nat.le_of_ble_eq_true rfl⟩) rfl hl.1 rfl (Nat.le_of_ble_eq_true rfl) dX_pcWord_8 ?_
  exact g_lretP X hr hlk hfin dX_pcWord_11
set_option maxHeartbeats 4000000 in
set_option maxRecDepth 100000 in
theorem cx_shrinkStack (l : Launch) (D : va_G) (cA : ClassId) (o q : Nat) (hne : va_nd [o, q] = true) (u : XS) (a0 : Int32) (z : XS) (hfin : x_shrinkStack u a0 = some z) : gMv l yX_shrinkStack wX_shrinkStack (rmF 2 47) D [(cA, .long)] (XW cA o q) (XA o q) [.ref o, .int a0] u z := by
  refine g_start (plainFor_of_name (by decide)) (Nat.le_of_ble_eq_true rfl) ?_
  intro p e s0 m args below meth c ls X hr hlk hB hl
  obtain ⟨hP0, hK⟩ := hB
  have hI : gI D (XW cA o q) (XA o q) s0.heap s0.heap [] u := ⟨hP0, va_S.rf⟩
  have hl : lv_has ls 2 [(0, .ref o), (1, .int a0)] := hl
  have hx := X.1
  have hb := X.2.1
  rw [x_shrinkStack] at hfin
  refine lv_aload_n hx hb dX_shrinkStack_0 rfl (lv_at hl 0 rfl) ?_
  refine lv_iload_n hx hb dX_shrinkStack_1 rfl (lv_at hl 1 rfl) ?_
  refine lv_iconst (v := (-1 : Int32)) hx hb dX_shrinkStack_2 (by decide) ?_
  obtain ⟨z3, hz3, hfin⟩ := bd_ob hfin
  refine g_callMv [.int a0, .int (-1 : Int32)] [] X hK x_rcv hI (cx_moveHalves l D cA o q hne u a0 (-1 : Int32) z3 hz3) (cwX_X_moveHalves X.2.2.2.2 ⟨Nat.le_of_ble_eq_true rfl, Nat.le_of_ble_eq_true rfl⟩) rfl hl.1 rfl (Nat.le_of_ble_eq_true rfl) dX_shrinkStack_3 (fun H locs hI => ?_)
  refine lv_aload_n hx hb dX_shrinkStack_6 rfl (lv_at hl 0 rfl) ?_
  refine xg_words X hK hI.1 dX_shrinkStack_7 ?_
  refine lv_iload_n hx hb dX_shrinkStack_10 rfl (lv_at hl 1 rfl) ?_
  obtain ⟨hd11, hfin⟩ := ck_if hfin
  refine xl_words X hK hI.1 hd11 dX_shrinkStack_11 ?_
  refine g_callPi [.long (X_words z3 a0.toNatClampNeg)] [] X (cx_left l (X_words z3 a0.toNatClampNeg)) (cwX_X_left X.2.2.2.2 ⟨Nat.le_of_ble_eq_true rfl, Nat.le_of_ble_eq_true rfl⟩) rfl hl.1 rfl (Nat.le_of_ble_eq_true rfl) dX_shrinkStack_12 ?_
  refine lv_ldc hx hb X.2.2.2.1 (X.2.2.2.2 _ hkX_41) dX_shrinkStack_15 ?_
  refine lv_icmp_ne (tgt := 24) hx hb dX_shrinkStack_17 (by decide) (fun hc17 => ?_) (fun hc17 => ?_)
  · rw [if_neg hc17] at hfin
    exact g_vret X hr hlk hK hI hfin dX_shrinkStack_24
  rw [if_pos hc17] at hfin
  refine lv_aload_n hx hb dX_shrinkStack_20 rfl (lv_at hl 0 rfl) ?_
  obtain ⟨z21, hz21, hfin⟩ := bd_ob hfin
  refine g_callMv [] [] X hK x_rcv hI (cx_setOverflow l D cA o q hne z3 z21 hz21) (cwX_X_setOverflow X.2.2.2.2 ⟨Nat.le_of_ble_eq_true rfl, Nat.le_of_ble_eq_true rfl⟩) rfl hl.1 rfl (Nat.le_of_ble_eq_true rfl) dX_shrinkStack_21 (fun H locs hI => ?_)
  exact g_vret X hr hlk hK hI hfin dX_shrinkStack_24
set_option maxHeartbeats 4000000 in
set_option maxRecDepth 100000 in
theorem cx_stack (l : Launch) (D : va_G) (cA : ClassId) (o q : Nat) (hne : va_nd [o, q] = true) (u : XS) (a0 : Int32) (a1 : Int32) (a2 : Int32) (z : XS) (hfin : x_stack u a0 a1 a2 = some z) : gMv l yX_stack wX_stack (rmF 3 68) D [(cA, .long)] (XW cA o q) (XA o q) [.ref o, .int a0, .int a1, .int a2] u z := by
  refine g_start (plainFor_of_name (by decide)) (Nat.le_of_ble_eq_true rfl) ?_
  intro p e s0 m args below meth c ls X hr hlk hB hl
  obtain ⟨hP0, hK⟩ := hB
  have hI : gI D (XW cA o q) (XA o q) s0.heap s0.heap [] u := ⟨hP0, va_S.rf⟩
  have hl : lv_has ls 4 [(0, .ref o), (1, .int a0), (2, .int a1), (3, .int a2)] := hl
  have hx := X.1
  have hb := X.2.1
  rw [x_stack] at hfin
  refine lv_iload_n hx hb dX_stack_0 rfl (lv_at hl 1 rfl) ?_
  by_cases hk1_0 : a0 = (176 : Int32)
  · rw [if_pos hk1_0] at hfin
    refine lv_tableIn hx hb dX_stack_1 (off := 39) (tgt := 40) (by rw [hk1_0]; decide) (by rw [hk1_0]; decide) (by rw [hk1_0]; rfl) (by decide) ?_
    refine lv_aload_n hx hb dX_stack_40 rfl (lv_at hl 0 rfl) ?_
    refine lv_iload_n hx hb dX_stack_41 rfl (lv_at hl 2 rfl) ?_
    obtain ⟨z42, hz42, hfin⟩ := bd_ob hfin
    refine g_callMv [.int a1] [] X hK x_rcv hI (cx_growStack l D cA o q hne u a1 z42 hz42) (cwX_X_growStack X.2.2.2.2 ⟨Nat.le_of_ble_eq_true rfl, Nat.le_of_ble_eq_true rfl⟩) rfl hl.1 rfl (Nat.le_of_ble_eq_true rfl) dX_stack_42 (fun H locs hI => ?_)
    refine lv_aload_n hx hb dX_stack_45 rfl (lv_at hl 0 rfl) ?_
    refine lv_aload_n hx hb dX_stack_46 rfl (lv_at hl 0 rfl) ?_
    refine xg_words X hK hI.1 dX_stack_47 ?_
    refine lv_iload_n hx hb dX_stack_50 rfl (lv_at hl 2 rfl) ?_
    obtain ⟨hd51, hfin⟩ := ck_if hfin
    refine xl_words X hK hI.1 hd51 dX_stack_51 ?_
    refine g_callPi [.long (X_words z42 a1.toNatClampNeg)] [.ref o] X (cx_right l (X_words z42 a1.toNatClampNeg)) (cwX_X_right X.2.2.2.2 ⟨Nat.le_of_ble_eq_true rfl, Nat.le_of_ble_eq_true rfl⟩) rfl hl.1 rfl (Nat.le_of_ble_eq_true rfl) dX_stack_52 ?_
    refine lv_aload_n hx hb dX_stack_55 rfl (lv_at hl 0 rfl) ?_
    refine g_callRl [] [.int (x_right (X_words z42 a1.toNatClampNeg)), .ref o] X hK x_rcv hI.1 (cx_pcWord l D cA o q z42) (cwX_X_pcWord X.2.2.2.2 ⟨Nat.le_of_ble_eq_true rfl, Nat.le_of_ble_eq_true rfl⟩) rfl hl.1 rfl (Nat.le_of_ble_eq_true rfl) dX_stack_56 ?_
    obtain ⟨z59, hz59, hfin⟩ := bd_ob hfin
    refine g_callMv [.int (x_right (X_words z42 a1.toNatClampNeg)), .long (x_pcWord z42)] [] X hK x_rcv hI (cx_write l D cA o q hne z42 (x_right (X_words z42 a1.toNatClampNeg)) (x_pcWord z42) z59 hz59) (cwX_X_write X.2.2.2.2 ⟨Nat.le_of_ble_eq_true rfl, Nat.le_of_ble_eq_true rfl⟩) rfl hl.1 rfl (Nat.le_of_ble_eq_true rfl) dX_stack_59 (fun H locs hI => ?_)
    refine lv_aload_n hx hb dX_stack_62 rfl (lv_at hl 0 rfl) ?_
    refine lv_iload_n hx hb dX_stack_63 rfl (lv_at hl 3 rfl) ?_
    refine xp_pc X hK (x_D hne) hI dX_stack_64 (fun H locs hI => ?_)
    exact g_vret X hr hlk hK hI hfin dX_stack_67
  rw [if_neg hk1_0] at hfin
  by_cases hk1_1 : a0 = (177 : Int32)
  · rw [if_pos hk1_1] at hfin
    refine lv_tableIn hx hb dX_stack_1 (off := 67) (tgt := 68) (by rw [hk1_1]; decide) (by rw [hk1_1]; decide) (by rw [hk1_1]; rfl) (by decide) ?_
    refine lv_aload_n hx hb dX_stack_68 rfl (lv_at hl 0 rfl) ?_
    refine lv_iload_n hx hb dX_stack_69 rfl (lv_at hl 2 rfl) ?_
    obtain ⟨z70, hz70, hfin⟩ := bd_ob hfin
    refine g_callMv [.int a1] [] X hK x_rcv hI (cx_growStack l D cA o q hne u a1 z70 hz70) (cwX_X_growStack X.2.2.2.2 ⟨Nat.le_of_ble_eq_true rfl, Nat.le_of_ble_eq_true rfl⟩) rfl hl.1 rfl (Nat.le_of_ble_eq_true rfl) dX_stack_70 (fun H locs hI => ?_)
    refine lv_aload_n hx hb dX_stack_73 rfl (lv_at hl 0 rfl) ?_
    refine lv_aload_n hx hb dX_stack_74 rfl (lv_at hl 0 rfl) ?_
    refine xg_words X hK hI.1 dX_stack_75 ?_
    refine lv_iload_n hx hb dX_stack_78 rfl (lv_at hl 2 rfl) ?_
    obtain ⟨hd79, hfin⟩ := ck_if hfin
    refine xl_words X hK hI.1 hd79 dX_stack_79 ?_
    refine g_callPi [.long (X_words z70 a1.toNatClampNeg)] [.ref o] X (cx_right l (X_words z70 a1.toNatClampNeg)) (cwX_X_right X.2.2.2.2 ⟨Nat.le_of_ble_eq_true rfl, Nat.le_of_ble_eq_true rfl⟩) rfl hl.1 rfl (Nat.le_of_ble_eq_true rfl) dX_stack_80 ?_
    refine lv_aload_n hx hb dX_stack_83 rfl (lv_at hl 0 rfl) ?_
    refine lv_iload_n hx hb dX_stack_84 rfl (lv_at hl 3 rfl) ?_
    obtain ⟨z85, hz85, hfin⟩ := bd_ob hfin
    refine g_callMl [.int a2] [.int (x_right (X_words z70 a1.toNatClampNeg)), .ref o] X hK x_rcv hI (cx_read l D cA o q hne z70 a2 z85 hz85) (cwX_X_read X.2.2.2.2 ⟨Nat.le_of_ble_eq_true rfl, Nat.le_of_ble_eq_true rfl⟩) rfl hl.1 rfl (Nat.le_of_ble_eq_true rfl) dX_stack_85 (fun H locs hI => ?_)
    obtain ⟨z88, hz88, hfin⟩ := bd_ob hfin
    refine g_callMv [.int (x_right (X_words z70 a1.toNatClampNeg)), .long z85.1] [] X hK x_rcv hI (cx_write l D cA o q hne z85.2 (x_right (X_words z70 a1.toNatClampNeg)) z85.1 z88 hz88) (cwX_X_write X.2.2.2.2 ⟨Nat.le_of_ble_eq_true rfl, Nat.le_of_ble_eq_true rfl⟩) rfl hl.1 rfl (Nat.le_of_ble_eq_true rfl) dX_stack_88 (fun H locs hI => ?_)
    exact g_vret X hr hlk hK hI hfin dX_stack_91
  rw [if_neg hk1_1] at hfin
  by_cases hk1_2 : a0 = (178 : Int32)
  · rw [if_pos hk1_2] at hfin
    refine lv_tableIn hx hb dX_stack_1 (off := 91) (tgt := 92) (by rw [hk1_2]; decide) (by rw [hk1_2]; decide) (by rw [hk1_2]; rfl) (by decide) ?_
    refine lv_aload_n hx hb dX_stack_92 rfl (lv_at hl 0 rfl) ?_
    refine lv_iload_n hx hb dX_stack_93 rfl (lv_at hl 3 rfl) ?_
    refine lv_aload_n hx hb dX_stack_94 rfl (lv_at hl 0 rfl) ?_
    refine lv_aload_n hx hb dX_stack_95 rfl (lv_at hl 0 rfl) ?_
    refine xg_words X hK hI.1 dX_stack_96 ?_
    refine lv_iload_n hx hb dX_stack_99 rfl (lv_at hl 2 rfl) ?_
    obtain ⟨hd100, hfin⟩ := ck_if hfin
    refine xl_words X hK hI.1 hd100 dX_stack_100 ?_
    refine g_callPi [.long (X_words u a1.toNatClampNeg)] [.ref o, .int a2, .ref o] X (cx_right l (X_words u a1.toNatClampNeg)) (cwX_X_right X.2.2.2.2 ⟨Nat.le_of_ble_eq_true rfl, Nat.le_of_ble_eq_true rfl⟩) rfl hl.1 rfl (Nat.le_of_ble_eq_true rfl) dX_stack_101 ?_
    obtain ⟨z104, hz104, hfin⟩ := bd_ob hfin
    refine g_callMl [.int (x_right (X_words u a1.toNatClampNeg))] [.int a2, .ref o] X hK x_rcv hI (cx_read l D cA o q hne u (x_right (X_words u a1.toNatClampNeg)) z104 hz104) (cwX_X_read X.2.2.2.2 ⟨Nat.le_of_ble_eq_true rfl, Nat.le_of_ble_eq_true rfl⟩) rfl hl.1 rfl (Nat.le_of_ble_eq_true rfl) dX_stack_104 (fun H locs hI => ?_)
    obtain ⟨z107, hz107, hfin⟩ := bd_ob hfin
    refine g_callMv [.int a2, .long z104.1] [] X hK x_rcv hI (cx_write l D cA o q hne z104.2 a2 z104.1 z107 hz107) (cwX_X_write X.2.2.2.2 ⟨Nat.le_of_ble_eq_true rfl, Nat.le_of_ble_eq_true rfl⟩) rfl hl.1 rfl (Nat.le_of_ble_eq_true rfl) dX_stack_107 (fun H locs hI => ?_)
    refine lv_aload_n hx hb dX_stack_110 rfl (lv_at hl 0 rfl) ?_
    refine lv_iload_n hx hb dX_stack_111 rfl (lv_at hl 2 rfl) ?_
    obtain ⟨z112, hz112, hfin⟩ := bd_ob hfin
    refine g_callMv [.int a1] [] X hK x_rcv hI (cx_shrinkStack l D cA o q hne z107 a1 z112 hz112) (cwX_X_shrinkStack X.2.2.2.2 ⟨Nat.le_of_ble_eq_true rfl, Nat.le_of_ble_eq_true rfl⟩) rfl hl.1 rfl (Nat.le_of_ble_eq_true rfl) dX_stack_112 (fun H locs hI => ?_)
    exact g_vret X hr hlk hK hI hfin dX_stack_115
  rw [if_neg hk1_2] at hfin
  by_cases hk1_3 : a0 = (179 : Int32)
  · rw [if_pos hk1_3] at hfin
    refine lv_tableIn hx hb dX_stack_1 (off := 115) (tgt := 116) (by rw [hk1_3]; decide) (by rw [hk1_3]; decide) (by rw [hk1_3]; rfl) (by decide) ?_
    refine lv_aload_n hx hb dX_stack_116 rfl (lv_at hl 0 rfl) ?_
    refine lv_aload_n hx hb dX_stack_117 rfl (lv_at hl 0 rfl) ?_
    refine lv_aload_n hx hb dX_stack_118 rfl (lv_at hl 0 rfl) ?_
    refine xg_words X hK hI.1 dX_stack_119 ?_
    refine lv_iload_n hx hb dX_stack_122 rfl (lv_at hl 2 rfl) ?_
    obtain ⟨hd123, hfin⟩ := ck_if hfin
    refine xl_words X hK hI.1 hd123 dX_stack_123 ?_
    refine g_callPi [.long (X_words u a1.toNatClampNeg)] [.ref o, .ref o] X (cx_right l (X_words u a1.toNatClampNeg)) (cwX_X_right X.2.2.2.2 ⟨Nat.le_of_ble_eq_true rfl, Nat.le_of_ble_eq_true rfl⟩) rfl hl.1 rfl (Nat.le_of_ble_eq_true rfl) dX_stack_124 ?_
    obtain ⟨z127, hz127, hfin⟩ := bd_ob hfin
    refine g_callMl [.int (x_right (X_words u a1.toNatClampNeg))] [.ref o] X hK x_rcv hI (cx_read l D cA o q hne u (x_right (X_words u a1.toNatClampNeg)) z127 hz127) (cwX_X_read X.2.2.2.2 ⟨Nat.le_of_ble_eq_true rfl, Nat.le_of_ble_eq_true rfl⟩) rfl hl.1 rfl (Nat.le_of_ble_eq_true rfl) dX_stack_127 (fun H locs hI => ?_)
    refine g_callPi [.long z127.1] [.ref o] X (cx_right l z127.1) (cwX_X_right X.2.2.2.2 ⟨Nat.le_of_ble_eq_true rfl, Nat.le_of_ble_eq_true rfl⟩) rfl hl.1 rfl (Nat.le_of_ble_eq_true rfl) dX_stack_130 ?_
    refine xp_pc X hK (x_D hne) hI dX_stack_133 (fun H locs hI => ?_)
    refine lv_aload_n hx hb dX_stack_136 rfl (lv_at hl 0 rfl) ?_
    refine lv_iload_n hx hb dX_stack_137 rfl (lv_at hl 2 rfl) ?_
    obtain ⟨z138, hz138, hfin⟩ := bd_ob hfin
    refine g_callMv [.int a1] [] X hK x_rcv hI (cx_shrinkStack l D cA o q hne (X_s_pc z127.2 (x_right z127.1)) a1 z138 hz138) (cwX_X_shrinkStack X.2.2.2.2 ⟨Nat.le_of_ble_eq_true rfl, Nat.le_of_ble_eq_true rfl⟩) rfl hl.1 rfl (Nat.le_of_ble_eq_true rfl) dX_stack_138 (fun H locs hI => ?_)
    exact g_vret X hr hlk hK hI hfin dX_stack_141
  rw [if_neg hk1_3] at hfin
  by_cases hk1_4 : a0 = (180 : Int32)
  · rw [if_pos hk1_4] at hfin
    refine lv_tableIn hx hb dX_stack_1 (off := 141) (tgt := 142) (by rw [hk1_4]; decide) (by rw [hk1_4]; decide) (by rw [hk1_4]; rfl) (by decide) ?_
    refine lv_aload_n hx hb dX_stack_142 rfl (lv_at hl 0 rfl) ?_
    refine lv_iload_n hx hb dX_stack_143 rfl (lv_at hl 3 rfl) ?_
    refine lv_aload_n hx hb dX_stack_144 rfl (lv_at hl 0 rfl) ?_
    refine g_callRl [] [.int a2, .ref o] X hK x_rcv hI.1 (cx_pcWord l D cA o q u) (cwX_X_pcWord X.2.2.2.2 ⟨Nat.le_of_ble_eq_true rfl, Nat.le_of_ble_eq_true rfl⟩) rfl hl.1 rfl (Nat.le_of_ble_eq_true rfl) dX_stack_145 ?_
    obtain ⟨z148, hz148, hfin⟩ := bd_ob hfin
    refine g_callMv [.int a2, .long (x_pcWord u)] [] X hK x_rcv hI (cx_write l D cA o q hne u a2 (x_pcWord u) z148 hz148) (cwX_X_write X.2.2.2.2 ⟨Nat.le_of_ble_eq_true rfl, Nat.le_of_ble_eq_true rfl⟩) rfl hl.1 rfl (Nat.le_of_ble_eq_true rfl) dX_stack_148 (fun H locs hI => ?_)
    refine lv_aload_n hx hb dX_stack_151 rfl (lv_at hl 0 rfl) ?_
    refine lv_iload_n hx hb dX_stack_152 rfl (lv_at hl 3 rfl) ?_
    refine lv_iconst (v := (1 : Int32)) hx hb dX_stack_153 (by decide) ?_
    refine lv_iadd hx hb dX_stack_154 ?_
    refine g_callPi [.int (a2 + (1 : Int32))] [.ref o] X (cx_wrapped l (a2 + (1 : Int32))) (cwX_X_wrapped X.2.2.2.2 ⟨Nat.le_of_ble_eq_true rfl, Nat.le_of_ble_eq_true rfl⟩) rfl hl.1 rfl (Nat.le_of_ble_eq_true rfl) dX_stack_155 ?_
    refine xp_pc X hK (x_D hne) hI dX_stack_158 (fun H locs hI => ?_)
    exact g_vret X hr hlk hK hI hfin dX_stack_161
  rw [if_neg hk1_4] at hfin
  by_cases hk1_5 : a0 = (181 : Int32)
  · rw [if_pos hk1_5] at hfin
    refine lv_tableIn hx hb dX_stack_1 (off := 161) (tgt := 162) (by rw [hk1_5]; decide) (by rw [hk1_5]; decide) (by rw [hk1_5]; rfl) (by decide) ?_
    refine lv_aload_n hx hb dX_stack_162 rfl (lv_at hl 0 rfl) ?_
    refine lv_iload_n hx hb dX_stack_163 rfl (lv_at hl 2 rfl) ?_
    refine lv_aload_n hx hb dX_stack_164 rfl (lv_at hl 0 rfl) ?_
    refine g_callRl [] [.int a1, .ref o] X hK x_rcv hI.1 (cx_pcWord l D cA o q u) (cwX_X_pcWord X.2.2.2.2 ⟨Nat.le_of_ble_eq_true rfl, Nat.le_of_ble_eq_true rfl⟩) rfl hl.1 rfl (Nat.le_of_ble_eq_true rfl) dX_stack_165 ?_
    obtain ⟨z168, hz168, hfin⟩ := bd_ob hfin
    refine g_callMv [.int a1, .long (x_pcWord u)] [] X hK x_rcv hI (cx_setAccumulator l D cA o q hne u a1 (x_pcWord u) z168 hz168) (cwX_X_setAccumulator X.2.2.2.2 ⟨Nat.le_of_ble_eq_true rfl, Nat.le_of_ble_eq_true rfl⟩) rfl hl.1 rfl (Nat.le_of_ble_eq_true rfl) dX_stack_168 (fun H locs hI => ?_)
    refine lv_aload_n hx hb dX_stack_171 rfl (lv_at hl 0 rfl) ?_
    refine lv_iload_n hx hb dX_stack_172 rfl (lv_at hl 3 rfl) ?_
    refine xp_pc X hK (x_D hne) hI dX_stack_173 (fun H locs hI => ?_)
    exact g_vret X hr hlk hK hI hfin dX_stack_176
  rw [if_neg hk1_5] at hfin
  have hn1_0 := i32_ne (176 : Int32) 176 (by decide) hk1_0
  have hn1_1 := i32_ne (177 : Int32) 177 (by decide) hk1_1
  have hn1_2 := i32_ne (178 : Int32) 178 (by decide) hk1_2
  have hn1_3 := i32_ne (179 : Int32) 179 (by decide) hk1_3
  have hn1_4 := i32_ne (180 : Int32) 180 (by decide) hk1_4
  have hn1_5 := i32_ne (181 : Int32) 181 (by decide) hk1_5
  refine lv_tableOut hx hb dX_stack_1 (tgt := 177) (by omega) (by decide) ?_
  refine lv_aload_n hx hb dX_stack_177 rfl (lv_at hl 0 rfl) ?_
  refine lv_iconst (v := (2 : Int32)) hx hb dX_stack_178 (by decide) ?_
  obtain ⟨z179, hz179, hfin⟩ := bd_ob hfin
  refine g_callMv [.int (2 : Int32)] [] X hK x_rcv hI (cx_raise l D cA o q hne u (2 : Int32) z179 hz179) (cwX_X_raise X.2.2.2.2 ⟨Nat.le_of_ble_eq_true rfl, Nat.le_of_ble_eq_true rfl⟩) rfl hl.1 rfl (Nat.le_of_ble_eq_true rfl) dX_stack_179 (fun H locs hI => ?_)
  exact g_vret X hr hlk hK hI hfin dX_stack_182
set_option maxHeartbeats 4000000 in
set_option maxRecDepth 100000 in
theorem cx_sum (l : Launch) (D : va_G) (cA : ClassId) (o q : Nat) (hne : va_nd [o, q] = true) (u : XS) (a0 : Int32) (a1 : Int32) (a2 : Int32) (z : XS) (hfin : x_sum u a0 a1 a2 = some z) : gMv l yX_sum wX_sum (rmF 3 71) D [(cA, .long)] (XW cA o q) (XA o q) [.ref o, .int a0, .int a1, .int a2] u z := by
  refine g_start (plainFor_of_name (by decide)) (Nat.le_of_ble_eq_true rfl) ?_
  intro p e s0 m args below meth c ls X hr hlk hB hl
  obtain ⟨hP0, hK⟩ := hB
  have hI : gI D (XW cA o q) (XA o q) s0.heap s0.heap [] u := ⟨hP0, va_S.rf⟩
  have hl : lv_has ls 10 [(0, .ref o), (1, .int a0), (2, .int a1), (3, .int a2)] := hl
  have hx := X.1
  have hb := X.2.1
  have B_65 : ∀ (u : XS) (t1 : Int32) (t2 : Int32) (t3 : Int32) (t5 : Int64) (H : Heap) (locs : List Loc) (ls : Array Slot), lv_has ls 10 [(0, .ref o), (1, .int a0), (2, .int a1), (3, .int a2)] → gI D (XW cA o q) (XA o q) s0.heap H locs u → x_sum_65 a0 a1 a2 u t1 t2 t3 t5 = some z → W p l e (rmF 3 71) s0 m args below meth c H locs 0 0 (MQ below (va_Qv (fun x => x = z) (gB D [(cA, .long)] (XW cA o q)) (XA o q)) args s0 0 0 (XA o q)) (F0 m 65 ls [.long t5, .ref o, .int t3, .int t2, .int t1, .ref o]) := by
    intro u t1 t2 t3 t5 H locs ls hl hI hfin
    rw [x_sum_65] at hfin
    obtain ⟨z65, hz65, hfin⟩ := bd_ob hfin
    refine g_callMl [.long t5] [.int t3, .int t2, .int t1, .ref o] X hK x_rcv hI (cx_fitted l D cA o q hne u t5 z65 hz65) (cwX_X_fitted X.2.2.2.2 ⟨Nat.le_of_ble_eq_true rfl, Nat.le_of_ble_eq_true rfl⟩) rfl hl.1 rfl (Nat.le_of_ble_eq_true rfl) dX_sum_65 (fun H locs hI => ?_)
    obtain ⟨z68, hz68, hfin⟩ := bd_ob hfin
    refine g_callMv [.int t1, .int t2, .int t3, .long z65.1] [] X hK x_rcv hI (cx_putResult l D cA o q hne z65.2 t1 t2 t3 z65.1 z68 hz68) (cwX_X_putResult X.2.2.2.2 ⟨Nat.le_of_ble_eq_true rfl, Nat.le_of_ble_eq_true rfl⟩) rfl hl.1 rfl (Nat.le_of_ble_eq_true rfl) dX_sum_68 (fun H locs hI => ?_)
    exact g_vret X hr hlk hK hI hfin dX_sum_71
  have B_39 : ∀ (u : XS) (v4 : Int32) (v5 : Int64) (v7 : Int64) (t0 : Int32) (H : Heap) (locs : List Loc) (ls : Array Slot), lv_has ls 10 [(0, .ref o), (1, .int a0), (2, .int a1), (3, .int a2), (4, .int v4), (5, .long v5), (7, .long v7)] → gI D (XW cA o q) (XA o q) s0.heap H locs u → x_sum_39 a0 a1 a2 u v4 v5 v7 t0 = some z → W p l e (rmF 3 71) s0 m args below meth c H locs 0 0 (MQ below (va_Qv (fun x => x = z) (gB D [(cA, .long)] (XW cA o q)) (XA o q)) args s0 0 0 (XA o q)) (F0 m 39 ls [.int t0]) := by
    intro u v4 v5 v7 t0 H locs ls hl hI hfin
    rw [x_sum_39] at hfin
    refine lv_istore (lv' := [(9, .int t0), (0, .ref o), (1, .int a0), (2, .int a1), (3, .int a2), (4, .int v4), (5, .long v5), (7, .long v7)]) hx hb dX_sum_39 hl (by decide) rfl (fun ls hl => ?_)
    refine lv_aload_n hx hb dX_sum_41 rfl (lv_at hl 1 rfl) ?_
    refine lv_iload hx hb dX_sum_42 (lv_at hl 5 rfl) ?_
    refine lv_iload_n hx hb dX_sum_44 rfl (lv_at hl 3 rfl) ?_
    refine lv_iload_n hx hb dX_sum_45 rfl (lv_at hl 4 rfl) ?_
    refine lv_aload_n hx hb dX_sum_46 rfl (lv_at hl 1 rfl) ?_
    refine lv_iload hx hb dX_sum_47 (lv_at hl 0 rfl) ?_
    refine lv_if_eq (tgt := 60) hx hb dX_sum_49 (by decide) (fun hc49 => ?_) (fun hc49 => ?_)
    · rw [if_pos hc49] at hfin
      refine lv_lload hx hb dX_sum_60 (lv_at hl 6 rfl) ?_
      refine lv_lload hx hb dX_sum_62 (lv_at hl 7 rfl) ?_
      refine lv_lsub hx hb dX_sum_64 ?_
      exact B_65 u v4 a1 a2 (v5 - v7) H locs ls (lv_sub hl [1, 2, 3, 4] rfl) hI hfin
    rw [if_neg hc49] at hfin
    refine lv_lload hx hb dX_sum_52 (lv_at hl 6 rfl) ?_
    refine lv_lload hx hb dX_sum_54 (lv_at hl 7 rfl) ?_
    refine lv_ladd hx hb dX_sum_56 ?_
    refine lv_goto (tgt := 65) hx hb dX_sum_57 (by decide) ?_
    exact B_65 u v4 a1 a2 (v5 + v7) H locs ls (lv_sub hl [1, 2, 3, 4] rfl) hI hfin
  rw [x_sum] at hfin
  refine lv_iload_n hx hb dX_sum_0 rfl (lv_at hl 1 rfl) ?_
  refine lv_iconst (v := (3 : Int32)) hx hb dX_sum_1 (by decide) ?_
  refine lv_iand hx hb dX_sum_2 ?_
  refine lv_topi (fun x3 e3 => ?_)
  replace hfin := nm_at hfin e3
  refine lv_istore (lv' := [(4, .int x3), (0, .ref o), (1, .int a0), (2, .int a1), (3, .int a2)]) hx hb dX_sum_3 hl (by decide) rfl (fun ls hl => ?_)
  refine lv_aload_n hx hb dX_sum_5 rfl (lv_at hl 1 rfl) ?_
  refine xg_words X hK hI.1 dX_sum_6 ?_
  refine lv_iload_n hx hb dX_sum_9 rfl (lv_at hl 3 rfl) ?_
  obtain ⟨hd10, hfin⟩ := ck_if hfin
  refine xl_words X hK hI.1 hd10 dX_sum_10 ?_
  refine g_callPl [.long (X_words u a1.toNatClampNeg)] [] X (cx_signed l (X_words u a1.toNatClampNeg)) (cwX_X_signed X.2.2.2.2 ⟨Nat.le_of_ble_eq_true rfl, Nat.le_of_ble_eq_true rfl⟩) rfl hl.1 rfl (Nat.le_of_ble_eq_true rfl) dX_sum_11 ?_
  refine lv_topl (fun x14 e14 => ?_)
  replace hfin := nm_at hfin e14
  refine lv_lstore (lv' := [(5, .long x14), (4, .int x3), (0, .ref o), (1, .int a0), (2, .int a1), (3, .int a2)]) hx hb dX_sum_14 hl (by decide) rfl (fun ls hl => ?_)
  refine lv_aload_n hx hb dX_sum_16 rfl (lv_at hl 2 rfl) ?_
  refine lv_iload hx hb dX_sum_17 (lv_at hl 1 rfl) ?_
  refine lv_iload_n hx hb dX_sum_19 rfl (lv_at hl 5 rfl) ?_
  obtain ⟨z20, hz20, hfin⟩ := bd_ob hfin
  refine g_callMl [.int x3, .int a2] [] X hK x_rcv hI (cx_source l D cA o q hne u x3 a2 z20 hz20) (cwX_X_source X.2.2.2.2 ⟨Nat.le_of_ble_eq_true rfl, Nat.le_of_ble_eq_true rfl⟩) rfl hl.1 rfl (Nat.le_of_ble_eq_true rfl) dX_sum_20 (fun H locs hI => ?_)
  refine g_callPl [.long z20.1] [] X (cx_signed l z20.1) (cwX_X_signed X.2.2.2.2 ⟨Nat.le_of_ble_eq_true rfl, Nat.le_of_ble_eq_true rfl⟩) rfl hl.1 rfl (Nat.le_of_ble_eq_true rfl) dX_sum_23 ?_
  refine lv_topl (fun x26 e26 => ?_)
  replace hfin := nm_at hfin e26
  refine lv_lstore (lv' := [(7, .long x26), (5, .long x14), (4, .int x3), (0, .ref o), (1, .int a0), (2, .int a1), (3, .int a2)]) hx hb dX_sum_26 hl (by decide) rfl (fun ls hl => ?_)
  refine lv_iload_n hx hb dX_sum_28 rfl (lv_at hl 4 rfl) ?_
  refine lv_iconst (v := (4 : Int32)) hx hb dX_sum_29 (by decide) ?_
  refine lv_iand hx hb dX_sum_30 ?_
  refine lv_if_ne (tgt := 38) hx hb dX_sum_31 (by decide) (fun hc31 => ?_) (fun hc31 => ?_)
  · rw [if_neg hc31] at hfin
    refine lv_iconst (v := (0 : Int32)) hx hb dX_sum_38 (by decide) ?_
    exact B_39 z20.2 x3 x14 x26 (0 : Int32) H locs ls (lv_sub hl [3, 4, 5, 6, 2, 1, 0] rfl) hI hfin
  rw [if_pos hc31] at hfin
  refine lv_iconst (v := (1 : Int32)) hx hb dX_sum_34 (by decide) ?_
  refine lv_goto (tgt := 39) hx hb dX_sum_35 (by decide) ?_
  exact B_39 z20.2 x3 x14 x26 (1 : Int32) H locs ls (lv_sub hl [3, 4, 5, 6, 2, 1, 0] rfl) hI hfin
set_option maxHeartbeats 4000000 in
set_option maxRecDepth 100000 in
theorem cx_holds (l : Launch) (a0 : Int32) (a1 : Int64) : gPi l yX_holds wX_holds (rmF 0 0) [.int a0, .long a1] (x_holds a0 a1) := by
  obtain ⟨z, hz⟩ : ∃ z, z = x_holds a0 a1 := ⟨_, rfl⟩
  rw [← hz]
  have hfin := hz.symm
  clear hz
  refine g_start (plainFor_of_name (by decide)) (Nat.le_of_ble_eq_true rfl) ?_
  intro p e s0 m args below meth c ls X hr hlk hB hl
  have hl : lv_has ls 3 [(0, .int a0), (1, .long a1)] := hl
  have hx := X.1
  have hb := X.2.1
  rw [x_holds] at hfin
  refine lv_iload_n hx hb dX_holds_0 rfl (lv_at hl 0 rfl) ?_
  by_cases hk1_0 : a0 = (1 : Int32)
  · rw [if_pos hk1_0] at hfin
    refine lv_tableIn hx hb dX_holds_1 (off := 43) (tgt := 44) (by rw [hk1_0]; decide) (by rw [hk1_0]; decide) (by rw [hk1_0]; rfl) (by decide) ?_
    refine lv_lload_n hx hb dX_holds_44 rfl (lv_at hl 1 rfl) ?_
    refine lv_lconst (v := (0 : Int64)) hx hb dX_holds_45 (by decide) ?_
    refine W.lcmp hx hb dX_holds_46 ?_
    refine lv_if_ge (tgt := 54) hx hb dX_holds_47 (by decide) (fun hc47 => ?_) (fun hc47 => ?_)
    · rw [if_pos hc47] at hfin
      refine lv_iconst (v := (0 : Int32)) hx hb dX_holds_54 (by decide) ?_
      exact g_zretP X hr hlk rfl hfin dX_holds_55
    rw [if_neg hc47] at hfin
    refine lv_iconst (v := (1 : Int32)) hx hb dX_holds_50 (by decide) ?_
    refine lv_goto (tgt := 55) hx hb dX_holds_51 (by decide) ?_
    exact g_zretP X hr hlk rfl hfin dX_holds_55
  rw [if_neg hk1_0] at hfin
  by_cases hk1_1 : a0 = (2 : Int32)
  · rw [if_pos hk1_1] at hfin
    refine lv_tableIn hx hb dX_holds_1 (off := 55) (tgt := 56) (by rw [hk1_1]; decide) (by rw [hk1_1]; decide) (by rw [hk1_1]; rfl) (by decide) ?_
    refine lv_lload_n hx hb dX_holds_56 rfl (lv_at hl 1 rfl) ?_
    refine lv_lconst (v := (0 : Int64)) hx hb dX_holds_57 (by decide) ?_
    refine W.lcmp hx hb dX_holds_58 ?_
    refine lv_if_ne (tgt := 66) hx hb dX_holds_59 (by decide) (fun hc59 => ?_) (fun hc59 => ?_)
    · rw [if_neg hc59] at hfin
      refine lv_iconst (v := (0 : Int32)) hx hb dX_holds_66 (by decide) ?_
      exact g_zretP X hr hlk rfl hfin dX_holds_67
    rw [if_pos hc59] at hfin
    refine lv_iconst (v := (1 : Int32)) hx hb dX_holds_62 (by decide) ?_
    refine lv_goto (tgt := 67) hx hb dX_holds_63 (by decide) ?_
    exact g_zretP X hr hlk rfl hfin dX_holds_67
  rw [if_neg hk1_1] at hfin
  by_cases hk1_2 : a0 = (3 : Int32)
  · rw [if_pos hk1_2] at hfin
    refine lv_tableIn hx hb dX_holds_1 (off := 67) (tgt := 68) (by rw [hk1_2]; decide) (by rw [hk1_2]; decide) (by rw [hk1_2]; rfl) (by decide) ?_
    refine lv_lload_n hx hb dX_holds_68 rfl (lv_at hl 1 rfl) ?_
    refine lv_lconst (v := (0 : Int64)) hx hb dX_holds_69 (by decide) ?_
    refine W.lcmp hx hb dX_holds_70 ?_
    refine lv_if_gt (tgt := 78) hx hb dX_holds_71 (by decide) (fun hc71 => ?_) (fun hc71 => ?_)
    · rw [if_pos hc71] at hfin
      refine lv_iconst (v := (0 : Int32)) hx hb dX_holds_78 (by decide) ?_
      exact g_zretP X hr hlk rfl hfin dX_holds_79
    rw [if_neg hc71] at hfin
    refine lv_iconst (v := (1 : Int32)) hx hb dX_holds_74 (by decide) ?_
    refine lv_goto (tgt := 79) hx hb dX_holds_75 (by decide) ?_
    exact g_zretP X hr hlk rfl hfin dX_holds_79
  rw [if_neg hk1_2] at hfin
  by_cases hk1_3 : a0 = (4 : Int32)
  · rw [if_pos hk1_3] at hfin
    refine lv_tableIn hx hb dX_holds_1 (off := 79) (tgt := 80) (by rw [hk1_3]; decide) (by rw [hk1_3]; decide) (by rw [hk1_3]; rfl) (by decide) ?_
    refine lv_iconst (v := (1 : Int32)) hx hb dX_holds_80 (by decide) ?_
    exact g_zretP X hr hlk rfl hfin dX_holds_81
  rw [if_neg hk1_3] at hfin
  by_cases hk1_4 : a0 = (5 : Int32)
  · rw [if_pos hk1_4] at hfin
    refine lv_tableIn hx hb dX_holds_1 (off := 81) (tgt := 82) (by rw [hk1_4]; decide) (by rw [hk1_4]; decide) (by rw [hk1_4]; rfl) (by decide) ?_
    refine lv_lload_n hx hb dX_holds_82 rfl (lv_at hl 1 rfl) ?_
    refine lv_lconst (v := (0 : Int64)) hx hb dX_holds_83 (by decide) ?_
    refine W.lcmp hx hb dX_holds_84 ?_
    refine lv_if_lt (tgt := 92) hx hb dX_holds_85 (by decide) (fun hc85 => ?_) (fun hc85 => ?_)
    · rw [if_pos hc85] at hfin
      refine lv_iconst (v := (0 : Int32)) hx hb dX_holds_92 (by decide) ?_
      exact g_zretP X hr hlk rfl hfin dX_holds_93
    rw [if_neg hc85] at hfin
    refine lv_iconst (v := (1 : Int32)) hx hb dX_holds_88 (by decide) ?_
    refine lv_goto (tgt := 93) hx hb dX_holds_89 (by decide) ?_
    exact g_zretP X hr hlk rfl hfin dX_holds_93
  rw [if_neg hk1_4] at hfin
  by_cases hk1_5 : a0 = (6 : Int32)
  · rw [if_pos hk1_5] at hfin
    refine lv_tableIn hx hb dX_holds_1 (off := 93) (tgt := 94) (by rw [hk1_5]; decide) (by rw [hk1_5]; decide) (by rw [hk1_5]; rfl) (by decide) ?_
    refine lv_lload_n hx hb dX_holds_94 rfl (lv_at hl 1 rfl) ?_
    refine lv_lconst (v := (0 : Int64)) hx hb dX_holds_95 (by decide) ?_
    refine W.lcmp hx hb dX_holds_96 ?_
    refine lv_if_eq (tgt := 104) hx hb dX_holds_97 (by decide) (fun hc97 => ?_) (fun hc97 => ?_)
    · rw [if_pos hc97] at hfin
      refine lv_iconst (v := (0 : Int32)) hx hb dX_holds_104 (by decide) ?_
      exact g_zretP X hr hlk rfl hfin dX_holds_105
    rw [if_neg hc97] at hfin
    refine lv_iconst (v := (1 : Int32)) hx hb dX_holds_100 (by decide) ?_
    refine lv_goto (tgt := 105) hx hb dX_holds_101 (by decide) ?_
    exact g_zretP X hr hlk rfl hfin dX_holds_105
  rw [if_neg hk1_5] at hfin
  by_cases hk1_6 : a0 = (7 : Int32)
  · rw [if_pos hk1_6] at hfin
    refine lv_tableIn hx hb dX_holds_1 (off := 105) (tgt := 106) (by rw [hk1_6]; decide) (by rw [hk1_6]; decide) (by rw [hk1_6]; rfl) (by decide) ?_
    refine lv_lload_n hx hb dX_holds_106 rfl (lv_at hl 1 rfl) ?_
    refine lv_lconst (v := (0 : Int64)) hx hb dX_holds_107 (by decide) ?_
    refine W.lcmp hx hb dX_holds_108 ?_
    refine lv_if_le (tgt := 116) hx hb dX_holds_109 (by decide) (fun hc109 => ?_) (fun hc109 => ?_)
    · rw [if_pos hc109] at hfin
      refine lv_iconst (v := (0 : Int32)) hx hb dX_holds_116 (by decide) ?_
      exact g_zretP X hr hlk rfl hfin dX_holds_117
    rw [if_neg hc109] at hfin
    refine lv_iconst (v := (1 : Int32)) hx hb dX_holds_112 (by decide) ?_
    refine lv_goto (tgt := 117) hx hb dX_holds_113 (by decide) ?_
    exact g_zretP X hr hlk rfl hfin dX_holds_117
  rw [if_neg hk1_6] at hfin
  have hn1_0 := i32_ne (1 : Int32) 1 (by decide) hk1_0
  have hn1_1 := i32_ne (2 : Int32) 2 (by decide) hk1_1
  have hn1_2 := i32_ne (3 : Int32) 3 (by decide) hk1_2
  have hn1_3 := i32_ne (4 : Int32) 4 (by decide) hk1_3
  have hn1_4 := i32_ne (5 : Int32) 5 (by decide) hk1_4
  have hn1_5 := i32_ne (6 : Int32) 6 (by decide) hk1_5
  have hn1_6 := i32_ne (7 : Int32) 7 (by decide) hk1_6
  refine lv_tableOut hx hb dX_holds_1 (tgt := 118) (by omega) (by decide) ?_
  refine lv_iconst (v := (0 : Int32)) hx hb dX_holds_118 (by decide) ?_
  exact g_zretP X hr hlk rfl hfin dX_holds_119
set_option maxHeartbeats 4000000 in
set_option maxRecDepth 100000 in
theorem cx_skipIf (l : Launch) (D : va_G) (cA : ClassId) (o q : Nat) (hne : va_nd [o, q] = true) (u : XS) (a0 : Int32) (z : XS) (hfin : x_skipIf u a0 = some z) : gMv l yX_skipIf wX_skipIf (rmF 1 20) D [(cA, .long)] (XW cA o q) (XA o q) [.ref o, .int a0] u z := by
  refine g_start (plainFor_of_name (by decide)) (Nat.le_of_ble_eq_true rfl) ?_
  intro p e s0 m args below meth c ls X hr hlk hB hl
  obtain ⟨hP0, hK⟩ := hB
  have hI : gI D (XW cA o q) (XA o q) s0.heap s0.heap [] u := ⟨hP0, va_S.rf⟩
  have hl : lv_has ls 2 [(0, .ref o), (1, .int a0)] := hl
  have hx := X.1
  have hb := X.2.1
  rw [x_skipIf] at hfin
  refine lv_iload_n hx hb dX_skipIf_0 rfl (lv_at hl 1 rfl) ?_
  refine lv_if_eq (tgt := 17) hx hb dX_skipIf_1 (by decide) (fun hc1 => ?_) (fun hc1 => ?_)
  · rw [if_pos hc1] at hfin
    exact g_vret X hr hlk hK hI hfin dX_skipIf_17
  rw [if_neg hc1] at hfin
  refine lv_aload_n hx hb dX_skipIf_4 rfl (lv_at hl 0 rfl) ?_
  refine lv_aload_n hx hb dX_skipIf_5 rfl (lv_at hl 0 rfl) ?_
  refine xg_pc X hK hI.1 dX_skipIf_6 ?_
  refine lv_iconst (v := (1 : Int32)) hx hb dX_skipIf_9 (by decide) ?_
  refine lv_iadd hx hb dX_skipIf_10 ?_
  refine g_callPi [.int ((X_pc u) + (1 : Int32))] [.ref o] X (cx_wrapped l ((X_pc u) + (1 : Int32))) (cwX_X_wrapped X.2.2.2.2 ⟨Nat.le_of_ble_eq_true rfl, Nat.le_of_ble_eq_true rfl⟩) rfl hl.1 rfl (Nat.le_of_ble_eq_true rfl) dX_skipIf_11 ?_
  refine xp_pc X hK (x_D hne) hI dX_skipIf_14 (fun H locs hI => ?_)
  exact g_vret X hr hlk hK hI hfin dX_skipIf_17
set_option maxHeartbeats 4000000 in
set_option maxRecDepth 100000 in
theorem cx_skipOnWord (l : Launch) (D : va_G) (cA : ClassId) (o q : Nat) (hne : va_nd [o, q] = true) (u : XS) (a0 : Int32) (a1 : Int32) (a2 : Int64) (z : XS) (hfin : x_skipOnWord u a0 a1 a2 = some z) : gMv l yX_skipOnWord wX_skipOnWord (rmF 2 46) D [(cA, .long)] (XW cA o q) (XA o q) [.ref o, .int a0, .int a1, .long a2] u z := by
  refine g_start (plainFor_of_name (by decide)) (Nat.le_of_ble_eq_true rfl) ?_
  intro p e s0 m args below meth c ls X hr hlk hB hl
  obtain ⟨hP0, hK⟩ := hB
  have hI : gI D (XW cA o q) (XA o q) s0.heap s0.heap [] u := ⟨hP0, va_S.rf⟩
  have hl : lv_has ls 5 [(0, .ref o), (1, .int a0), (2, .int a1), (3, .long a2)] := hl
  have hx := X.1
  have hb := X.2.1
  rw [x_skipOnWord] at hfin
  refine lv_aload_n hx hb dX_skipOnWord_0 rfl (lv_at hl 0 rfl) ?_
  refine lv_iload_n hx hb dX_skipOnWord_1 rfl (lv_at hl 2 rfl) ?_
  refine lv_lload_n hx hb dX_skipOnWord_2 rfl (lv_at hl 3 rfl) ?_
  obtain ⟨z3, hz3, hfin⟩ := bd_ob hfin
  refine g_callMv [.int a1, .long a2] [] X hK x_rcv hI (cx_setAccumulatorButZero l D cA o q hne u a1 a2 z3 hz3) (cwX_X_setAccumulatorButZero X.2.2.2.2 ⟨Nat.le_of_ble_eq_true rfl, Nat.le_of_ble_eq_true rfl⟩) rfl hl.1 rfl (Nat.le_of_ble_eq_true rfl) dX_skipOnWord_3 (fun H locs hI => ?_)
  refine lv_aload_n hx hb dX_skipOnWord_6 rfl (lv_at hl 0 rfl) ?_
  refine lv_iload_n hx hb dX_skipOnWord_7 rfl (lv_at hl 1 rfl) ?_
  refine lv_lload_n hx hb dX_skipOnWord_8 rfl (lv_at hl 3 rfl) ?_
  refine g_callPl [.long a2] [.int a0, .ref o] X (cx_signed l a2) (cwX_X_signed X.2.2.2.2 ⟨Nat.le_of_ble_eq_true rfl, Nat.le_of_ble_eq_true rfl⟩) rfl hl.1 rfl (Nat.le_of_ble_eq_true rfl) dX_skipOnWord_9 ?_
  refine g_callPi [.int a0, .long (x_signed a2)] [.ref o] X (cx_holds l a0 (x_signed a2)) (cwX_X_holds X.2.2.2.2 ⟨Nat.le_of_ble_eq_true rfl, Nat.le_of_ble_eq_true rfl⟩) rfl hl.1 rfl (Nat.le_of_ble_eq_true rfl) dX_skipOnWord_12 ?_
  obtain ⟨z15, hz15, hfin⟩ := bd_ob hfin
  refine g_callMv [.int (x_holds a0 (x_signed a2))] [] X hK x_rcv hI (cx_skipIf l D cA o q hne z3 (x_holds a0 (x_signed a2)) z15 hz15) (cwX_X_skipIf X.2.2.2.2 ⟨Nat.le_of_ble_eq_true rfl, Nat.le_of_ble_eq_true rfl⟩) rfl hl.1 rfl (Nat.le_of_ble_eq_true rfl) dX_skipOnWord_15 (fun H locs hI => ?_)
  exact g_vret X hr hlk hK hI hfin dX_skipOnWord_18
set_option maxHeartbeats 4000000 in
set_option maxRecDepth 100000 in
theorem cx_countAndJump (l : Launch) (D : va_G) (cA : ClassId) (o q : Nat) (hne : va_nd [o, q] = true) (u : XS) (a0 : Int32) (a1 : Int32) (a2 : Int32) (a3 : Int32) (z : XS) (hfin : x_countAndJump u a0 a1 a2 a3 = some z) : gMv l yX_countAndJump wX_countAndJump (rmF 2 45) D [(cA, .long)] (XW cA o q) (XA o q) [.ref o, .int a0, .int a1, .int a2, .int a3] u z := by
  refine g_start (plainFor_of_name (by decide)) (Nat.le_of_ble_eq_true rfl) ?_
  intro p e s0 m args below meth c ls X hr hlk hB hl
  obtain ⟨hP0, hK⟩ := hB
  have hI : gI D (XW cA o q) (XA o q) s0.heap s0.heap [] u := ⟨hP0, va_S.rf⟩
  have hl : lv_has ls 7 [(0, .ref o), (1, .int a0), (2, .int a1), (3, .int a2), (4, .int a3)] := hl
  have hx := X.1
  have hb := X.2.1
  rw [x_countAndJump] at hfin
  refine lv_aload_n hx hb dX_countAndJump_0 rfl (lv_at hl 0 rfl) ?_
  refine lv_aload_n hx hb dX_countAndJump_1 rfl (lv_at hl 0 rfl) ?_
  refine xg_words X hK hI.1 dX_countAndJump_2 ?_
  refine lv_iload_n hx hb dX_countAndJump_5 rfl (lv_at hl 2 rfl) ?_
  obtain ⟨hd6, hfin⟩ := ck_if hfin
  refine xl_words X hK hI.1 hd6 dX_countAndJump_6 ?_
  refine g_callPl [.long (X_words u a1.toNatClampNeg)] [.ref o] X (cx_signed l (X_words u a1.toNatClampNeg)) (cwX_X_signed X.2.2.2.2 ⟨Nat.le_of_ble_eq_true rfl, Nat.le_of_ble_eq_true rfl⟩) rfl hl.1 rfl (Nat.le_of_ble_eq_true rfl) dX_countAndJump_7 ?_
  refine lv_iload hx hb dX_countAndJump_10 (lv_at hl 4 rfl) ?_
  refine lv_i2l hx hb dX_countAndJump_12 rfl ?_
  refine lv_ladd hx hb dX_countAndJump_13 ?_
  obtain ⟨z14, hz14, hfin⟩ := bd_ob hfin
  refine g_callMl [.long ((x_signed (X_words u a1.toNatClampNeg)) + (a3.toInt64))] [] X hK x_rcv hI (cx_fitted l D cA o q hne u ((x_signed (X_words u a1.toNatClampNeg)) + (a3.toInt64)) z14 hz14) (cwX_X_fitted X.2.2.2.2 ⟨Nat.le_of_ble_eq_true rfl, Nat.le_of_ble_eq_true rfl⟩) rfl hl.1 rfl (Nat.le_of_ble_eq_true rfl) dX_countAndJump_14 (fun H locs hI => ?_)
  refine lv_lstore (lv' := [(5, .long z14.1), (0, .ref o), (1, .int a0), (2, .int a1), (3, .int a2), (4, .int a3)]) hx hb dX_countAndJump_17 hl (by decide) rfl (fun ls hl => ?_)
  refine lv_aload_n hx hb dX_countAndJump_19 rfl (lv_at hl 1 rfl) ?_
  refine lv_iload_n hx hb dX_countAndJump_20 rfl (lv_at hl 3 rfl) ?_
  refine lv_lload hx hb dX_countAndJump_21 (lv_at hl 0 rfl) ?_
  obtain ⟨z23, hz23, hfin⟩ := bd_ob hfin
  refine g_callMv [.int a1, .long z14.1] [] X hK x_rcv hI (cx_setAccumulator l D cA o q hne z14.2 a1 z14.1 z23 hz23) (cwX_X_setAccumulator X.2.2.2.2 ⟨Nat.le_of_ble_eq_true rfl, Nat.le_of_ble_eq_true rfl⟩) rfl hl.1 rfl (Nat.le_of_ble_eq_true rfl) dX_countAndJump_23 (fun H locs hI => ?_)
  refine lv_aload_n hx hb dX_countAndJump_26 rfl (lv_at hl 1 rfl) ?_
  refine lv_iload_n hx hb dX_countAndJump_27 rfl (lv_at hl 2 rfl) ?_
  refine lv_lload hx hb dX_countAndJump_28 (lv_at hl 0 rfl) ?_
  refine g_callPl [.long z14.1] [.int a0, .ref o] X (cx_signed l z14.1) (cwX_X_signed X.2.2.2.2 ⟨Nat.le_of_ble_eq_true rfl, Nat.le_of_ble_eq_true rfl⟩) rfl hl.1 rfl (Nat.le_of_ble_eq_true rfl) dX_countAndJump_30 ?_
  refine g_callPi [.int a0, .long (x_signed z14.1)] [.ref o] X (cx_holds l a0 (x_signed z14.1)) (cwX_X_holds X.2.2.2.2 ⟨Nat.le_of_ble_eq_true rfl, Nat.le_of_ble_eq_true rfl⟩) rfl hl.1 rfl (Nat.le_of_ble_eq_true rfl) dX_countAndJump_33 ?_
  refine lv_iload_n hx hb dX_countAndJump_36 rfl (lv_at hl 4 rfl) ?_
  obtain ⟨z37, hz37, hfin⟩ := bd_ob hfin
  refine g_callMv [.int (x_holds a0 (x_signed z14.1)), .int a2] [] X hK x_rcv hI (cx_jumpIf l D cA o q hne z23 (x_holds a0 (x_signed z14.1)) a2 z37 hz37) (cwX_X_jumpIf X.2.2.2.2 ⟨Nat.le_of_ble_eq_true rfl, Nat.le_of_ble_eq_true rfl⟩) rfl hl.1 rfl (Nat.le_of_ble_eq_true rfl) dX_countAndJump_37 (fun H locs hI => ?_)
  exact g_vret X hr hlk hK hI hfin dX_countAndJump_40
end
section
set_option maxHeartbeats 4000000 in
set_option maxRecDepth 100000 in
theorem cx_countAndSkip (l : Launch) (D : va_G) (cA : ClassId) (o q : Nat) (hne : va_nd [o, q] = true) (u : XS) (a0 : Int32) (a1 : Int32) (a2 : Int32) (a3 : Int32) (z : XS) (hfin : x_countAndSkip u a0 a1 a2 a3 = some z) : gMv l yX_countAndSkip wX_countAndSkip (rmF 3 70) D [(cA, .long)] (XW cA o q) (XA o q) [.ref o, .int a0, .int a1, .int a2, .int a3] u z := by
  refine g_start (plainFor_of_name (by decide)) (Nat.le_of_ble_eq_true rfl) ?_
  intro p e s0 m args below meth c ls X hr hlk hB hl
  obtain ⟨hP0, hK⟩ := hB
  have hI : gI D (XW cA o q) (XA o q) s0.heap s0.heap [] u := ⟨hP0, va_S.rf⟩
  have hl : lv_has ls 7 [(0, .ref o), (1, .int a0), (2, .int a1), (3, .int a2), (4, .int a3)] := hl
  have hx := X.1
  have hb := X.2.1
  rw [x_countAndSkip] at hfin
  refine lv_aload_n hx hb dX_countAndSkip_0 rfl (lv_at hl 0 rfl) ?_
  refine lv_aload_n hx hb dX_countAndSkip_1 rfl (lv_at hl 0 rfl) ?_
  refine lv_iload_n hx hb dX_countAndSkip_2 rfl (lv_at hl 3 rfl) ?_
  obtain ⟨z3, hz3, hfin⟩ := bd_ob hfin
  refine g_callMl [.int a2] [.ref o] X hK x_rcv hI (cx_read l D cA o q hne u a2 z3 hz3) (cwX_X_read X.2.2.2.2 ⟨Nat.le_of_ble_eq_true rfl, Nat.le_of_ble_eq_true rfl⟩) rfl hl.1 rfl (Nat.le_of_ble_eq_true rfl) dX_countAndSkip_3 (fun H locs hI => ?_)
  refine g_callPl [.long z3.1] [.ref o] X (cx_signed l z3.1) (cwX_X_signed X.2.2.2.2 ⟨Nat.le_of_ble_eq_true rfl, Nat.le_of_ble_eq_true rfl⟩) rfl hl.1 rfl (Nat.le_of_ble_eq_true rfl) dX_countAndSkip_6 ?_
  refine lv_iload hx hb dX_countAndSkip_9 (lv_at hl 4 rfl) ?_
  refine lv_i2l hx hb dX_countAndSkip_11 rfl ?_
  refine lv_ladd hx hb dX_countAndSkip_12 ?_
  obtain ⟨z13, hz13, hfin⟩ := bd_ob hfin
  refine g_callMl [.long ((x_signed z3.1) + (a3.toInt64))] [] X hK x_rcv hI (cx_fitted l D cA o q hne z3.2 ((x_signed z3.1) + (a3.toInt64)) z13 hz13) (cwX_X_fitted X.2.2.2.2 ⟨Nat.le_of_ble_eq_true rfl, Nat.le_of_ble_eq_true rfl⟩) rfl hl.1 rfl (Nat.le_of_ble_eq_true rfl) dX_countAndSkip_13 (fun H locs hI => ?_)
  refine lv_lstore (lv' := [(5, .long z13.1), (0, .ref o), (1, .int a0), (2, .int a1), (3, .int a2), (4, .int a3)]) hx hb dX_countAndSkip_16 hl (by decide) rfl (fun ls hl => ?_)
  refine lv_aload_n hx hb dX_countAndSkip_18 rfl (lv_at hl 1 rfl) ?_
  refine lv_iload_n hx hb dX_countAndSkip_19 rfl (lv_at hl 4 rfl) ?_
  refine lv_lload hx hb dX_countAndSkip_20 (lv_at hl 0 rfl) ?_
  obtain ⟨z22, hz22, hfin⟩ := bd_ob hfin
  refine g_callMv [.int a2, .long z13.1] [] X hK x_rcv hI (cx_write l D cA o q hne z13.2 a2 z13.1 z22 hz22) (cwX_X_write X.2.2.2.2 ⟨Nat.le_of_ble_eq_true rfl, Nat.le_of_ble_eq_true rfl⟩) rfl hl.1 rfl (Nat.le_of_ble_eq_true rfl) dX_countAndSkip_22 (fun H locs hI => ?_)
  refine lv_aload_n hx hb dX_countAndSkip_25 rfl (lv_at hl 1 rfl) ?_
  refine lv_iload_n hx hb dX_countAndSkip_26 rfl (lv_at hl 2 rfl) ?_
  refine lv_iload_n hx hb dX_countAndSkip_27 rfl (lv_at hl 3 rfl) ?_
  refine lv_lload hx hb dX_countAndSkip_28 (lv_at hl 0 rfl) ?_
  obtain ⟨z30, hz30, hfin⟩ := bd_ob hfin
  refine g_callMv [.int a0, .int a1, .long z13.1] [] X hK x_rcv hI (cx_skipOnWord l D cA o q hne z22 a0 a1 z13.1 z30 hz30) (cwX_X_skipOnWord X.2.2.2.2 ⟨Nat.le_of_ble_eq_true rfl, Nat.le_of_ble_eq_true rfl⟩) rfl hl.1 rfl (Nat.le_of_ble_eq_true rfl) dX_countAndSkip_30 (fun H locs hI => ?_)
  exact g_vret X hr hlk hK hI hfin dX_countAndSkip_33
set_option maxHeartbeats 4000000 in
set_option maxRecDepth 100000 in
theorem cx_compare (l : Launch) (D : va_G) (cA : ClassId) (o q : Nat) (hne : va_nd [o, q] = true) (u : XS) (a0 : Int32) (a1 : Int32) (a2 : Int32) (z : XS) (hfin : x_compare u a0 a1 a2 = some z) : gMv l yX_compare wX_compare (rmF 4 96) D [(cA, .long)] (XW cA o q) (XA o q) [.ref o, .int a0, .int a1, .int a2] u z := by
  refine g_start (plainFor_of_name (by decide)) (Nat.le_of_ble_eq_true rfl) ?_
  intro p e s0 m args below meth c ls X hr hlk hB hl
  obtain ⟨hP0, hK⟩ := hB
  have hI : gI D (XW cA o q) (XA o q) s0.heap s0.heap [] u := ⟨hP0, va_S.rf⟩
  have hl : lv_has ls 7 [(0, .ref o), (1, .int a0), (2, .int a1), (3, .int a2)] := hl
  have hx := X.1
  have hb := X.2.1
  rw [x_compare] at hfin
  refine lv_iload_n hx hb dX_compare_0 rfl (lv_at hl 1 rfl) ?_
  refine lv_bipush (v := (7 : Int32)) hx hb dX_compare_1 (by decide) ?_
  refine lv_iand hx hb dX_compare_3 ?_
  refine lv_topi (fun x4 e4 => ?_)
  replace hfin := nm_at hfin e4
  refine lv_istore (lv' := [(4, .int x4), (0, .ref o), (1, .int a0), (2, .int a1), (3, .int a2)]) hx hb dX_compare_4 hl (by decide) rfl (fun ls hl => ?_)
  refine lv_aload_n hx hb dX_compare_6 rfl (lv_at hl 1 rfl) ?_
  refine xg_words X hK hI.1 dX_compare_7 ?_
  refine lv_iload_n hx hb dX_compare_10 rfl (lv_at hl 3 rfl) ?_
  obtain ⟨hd11, hfin⟩ := ck_if hfin
  refine xl_words X hK hI.1 hd11 dX_compare_11 ?_
  refine g_callPl [.long (X_words u a1.toNatClampNeg)] [] X (cx_signed l (X_words u a1.toNatClampNeg)) (cwX_X_signed X.2.2.2.2 ⟨Nat.le_of_ble_eq_true rfl, Nat.le_of_ble_eq_true rfl⟩) rfl hl.1 rfl (Nat.le_of_ble_eq_true rfl) dX_compare_12 ?_
  refine lv_topl (fun x15 e15 => ?_)
  replace hfin := nm_at hfin e15
  refine lv_lstore (lv' := [(5, .long x15), (4, .int x4), (0, .ref o), (1, .int a0), (2, .int a1), (3, .int a2)]) hx hb dX_compare_15 hl (by decide) rfl (fun ls hl => ?_)
  refine lv_iload_n hx hb dX_compare_17 rfl (lv_at hl 3 rfl) ?_
  refine lv_iconst (v := (3 : Int32)) hx hb dX_compare_18 (by decide) ?_
  refine lv_ishr hx hb dX_compare_19 ?_
  refine lv_bipush (v := (7 : Int32)) hx hb dX_compare_20 (by decide) ?_
  refine lv_iand hx hb dX_compare_22 ?_
  by_cases hk23_0 : ((a0 >>> ((3 : Int32) &&& 31)) &&& (7 : Int32)) = (0 : Int32)
  · rw [if_pos hk23_0] at hfin
    refine lv_tableIn hx hb dX_compare_23 (off := 41) (tgt := 64) (by rw [hk23_0]; decide) (by rw [hk23_0]; decide) (by rw [hk23_0]; rfl) (by decide) ?_
    refine lv_aload_n hx hb dX_compare_64 rfl (lv_at hl 2 rfl) ?_
    refine lv_iload hx hb dX_compare_65 (lv_at hl 1 rfl) ?_
    refine lv_lload hx hb dX_compare_67 (lv_at hl 0 rfl) ?_
    refine lv_iload_n hx hb dX_compare_69 rfl (lv_at hl 5 rfl) ?_
    refine lv_i2l hx hb dX_compare_70 rfl ?_
    refine lv_lsub hx hb dX_compare_71 ?_
    refine g_callPi [.int x4, .long (x15 - (a2.toInt64))] [.ref o] X (cx_holds l x4 (x15 - (a2.toInt64))) (cwX_X_holds X.2.2.2.2 ⟨Nat.le_of_ble_eq_true rfl, Nat.le_of_ble_eq_true rfl⟩) rfl hl.1 rfl (Nat.le_of_ble_eq_true rfl) dX_compare_72 ?_
    obtain ⟨z75, hz75, hfin⟩ := bd_ob hfin
    refine g_callMv [.int (x_holds x4 (x15 - (a2.toInt64)))] [] X hK x_rcv hI (cx_skipIf l D cA o q hne u (x_holds x4 (x15 - (a2.toInt64))) z75 hz75) (cwX_X_skipIf X.2.2.2.2 ⟨Nat.le_of_ble_eq_true rfl, Nat.le_of_ble_eq_true rfl⟩) rfl hl.1 rfl (Nat.le_of_ble_eq_true rfl) dX_compare_75 (fun H locs hI => ?_)
    exact g_vret X hr hlk hK hI hfin dX_compare_78
  rw [if_neg hk23_0] at hfin
  by_cases hk23_1 : ((a0 >>> ((3 : Int32) &&& 31)) &&& (7 : Int32)) = (1 : Int32)
  · rw [if_pos hk23_1] at hfin
    refine lv_tableIn hx hb dX_compare_23 (off := 56) (tgt := 79) (by rw [hk23_1]; decide) (by rw [hk23_1]; decide) (by rw [hk23_1]; rfl) (by decide) ?_
    refine lv_aload_n hx hb dX_compare_79 rfl (lv_at hl 2 rfl) ?_
    refine lv_iload hx hb dX_compare_80 (lv_at hl 1 rfl) ?_
    refine lv_lload hx hb dX_compare_82 (lv_at hl 0 rfl) ?_
    refine lv_aload_n hx hb dX_compare_84 rfl (lv_at hl 2 rfl) ?_
    refine lv_iload_n hx hb dX_compare_85 rfl (lv_at hl 5 rfl) ?_
    obtain ⟨z86, hz86, hfin⟩ := bd_ob hfin
    refine g_callMl [.int a2] [.long x15, .int x4, .ref o] X hK x_rcv hI (cx_read l D cA o q hne u a2 z86 hz86) (cwX_X_read X.2.2.2.2 ⟨Nat.le_of_ble_eq_true rfl, Nat.le_of_ble_eq_true rfl⟩) rfl hl.1 rfl (Nat.le_of_ble_eq_true rfl) dX_compare_86 (fun H locs hI => ?_)
    refine g_callPl [.long z86.1] [.long x15, .int x4, .ref o] X (cx_signed l z86.1) (cwX_X_signed X.2.2.2.2 ⟨Nat.le_of_ble_eq_true rfl, Nat.le_of_ble_eq_true rfl⟩) rfl hl.1 rfl (Nat.le_of_ble_eq_true rfl) dX_compare_89 ?_
    refine lv_lsub hx hb dX_compare_92 ?_
    refine g_callPi [.int x4, .long (x15 - (x_signed z86.1))] [.ref o] X (cx_holds l x4 (x15 - (x_signed z86.1))) (cwX_X_holds X.2.2.2.2 ⟨Nat.le_of_ble_eq_true rfl, Nat.le_of_ble_eq_true rfl⟩) rfl hl.1 rfl (Nat.le_of_ble_eq_true rfl) dX_compare_93 ?_
    obtain ⟨z96, hz96, hfin⟩ := bd_ob hfin
    refine g_callMv [.int (x_holds x4 (x15 - (x_signed z86.1)))] [] X hK x_rcv hI (cx_skipIf l D cA o q hne z86.2 (x_holds x4 (x15 - (x_signed z86.1))) z96 hz96) (cwX_X_skipIf X.2.2.2.2 ⟨Nat.le_of_ble_eq_true rfl, Nat.le_of_ble_eq_true rfl⟩) rfl hl.1 rfl (Nat.le_of_ble_eq_true rfl) dX_compare_96 (fun H locs hI => ?_)
    exact g_vret X hr hlk hK hI hfin dX_compare_99
  rw [if_neg hk23_1] at hfin
  by_cases hk23_2 : ((a0 >>> ((3 : Int32) &&& 31)) &&& (7 : Int32)) = (2 : Int32)
  · rw [if_pos hk23_2] at hfin
    refine lv_tableIn hx hb dX_compare_23 (off := 77) (tgt := 100) (by rw [hk23_2]; decide) (by rw [hk23_2]; decide) (by rw [hk23_2]; rfl) (by decide) ?_
    refine lv_aload_n hx hb dX_compare_100 rfl (lv_at hl 2 rfl) ?_
    refine lv_iload hx hb dX_compare_101 (lv_at hl 1 rfl) ?_
    refine lv_lload hx hb dX_compare_103 (lv_at hl 0 rfl) ?_
    refine g_callPi [.int x4, .long x15] [.ref o] X (cx_holds l x4 x15) (cwX_X_holds X.2.2.2.2 ⟨Nat.le_of_ble_eq_true rfl, Nat.le_of_ble_eq_true rfl⟩) rfl hl.1 rfl (Nat.le_of_ble_eq_true rfl) dX_compare_105 ?_
    refine lv_iload_n hx hb dX_compare_108 rfl (lv_at hl 5 rfl) ?_
    obtain ⟨z109, hz109, hfin⟩ := bd_ob hfin
    refine g_callMv [.int (x_holds x4 x15), .int a2] [] X hK x_rcv hI (cx_jumpIf l D cA o q hne u (x_holds x4 x15) a2 z109 hz109) (cwX_X_jumpIf X.2.2.2.2 ⟨Nat.le_of_ble_eq_true rfl, Nat.le_of_ble_eq_true rfl⟩) rfl hl.1 rfl (Nat.le_of_ble_eq_true rfl) dX_compare_109 (fun H locs hI => ?_)
    exact g_vret X hr hlk hK hI hfin dX_compare_112
  rw [if_neg hk23_2] at hfin
  by_cases hk23_3 : ((a0 >>> ((3 : Int32) &&& 31)) &&& (7 : Int32)) = (3 : Int32)
  · rw [if_pos hk23_3] at hfin
    refine lv_tableIn hx hb dX_compare_23 (off := 90) (tgt := 113) (by rw [hk23_3]; decide) (by rw [hk23_3]; decide) (by rw [hk23_3]; rfl) (by decide) ?_
    refine lv_aload_n hx hb dX_compare_113 rfl (lv_at hl 2 rfl) ?_
    refine lv_iload hx hb dX_compare_114 (lv_at hl 1 rfl) ?_
    refine lv_iload_n hx hb dX_compare_116 rfl (lv_at hl 4 rfl) ?_
    refine lv_aload_n hx hb dX_compare_117 rfl (lv_at hl 2 rfl) ?_
    refine lv_iload_n hx hb dX_compare_118 rfl (lv_at hl 5 rfl) ?_
    obtain ⟨z119, hz119, hfin⟩ := bd_ob hfin
    refine g_callMl [.int a2] [.int a1, .int x4, .ref o] X hK x_rcv hI (cx_read l D cA o q hne u a2 z119 hz119) (cwX_X_read X.2.2.2.2 ⟨Nat.le_of_ble_eq_true rfl, Nat.le_of_ble_eq_true rfl⟩) rfl hl.1 rfl (Nat.le_of_ble_eq_true rfl) dX_compare_119 (fun H locs hI => ?_)
    obtain ⟨z122, hz122, hfin⟩ := bd_ob hfin
    refine g_callMv [.int x4, .int a1, .long z119.1] [] X hK x_rcv hI (cx_skipOnWord l D cA o q hne z119.2 x4 a1 z119.1 z122 hz122) (cwX_X_skipOnWord X.2.2.2.2 ⟨Nat.le_of_ble_eq_true rfl, Nat.le_of_ble_eq_true rfl⟩) rfl hl.1 rfl (Nat.le_of_ble_eq_true rfl) dX_compare_122 (fun H locs hI => ?_)
    exact g_vret X hr hlk hK hI hfin dX_compare_125
  rw [if_neg hk23_3] at hfin
  by_cases hk23_4 : ((a0 >>> ((3 : Int32) &&& 31)) &&& (7 : Int32)) = (4 : Int32)
  · rw [if_pos hk23_4] at hfin
    refine lv_tableIn hx hb dX_compare_23 (off := 103) (tgt := 126) (by rw [hk23_4]; decide) (by rw [hk23_4]; decide) (by rw [hk23_4]; rfl) (by decide) ?_
    refine lv_aload_n hx hb dX_compare_126 rfl (lv_at hl 2 rfl) ?_
    refine lv_iload hx hb dX_compare_127 (lv_at hl 1 rfl) ?_
    refine lv_iload_n hx hb dX_compare_129 rfl (lv_at hl 4 rfl) ?_
    refine lv_iload_n hx hb dX_compare_130 rfl (lv_at hl 5 rfl) ?_
    refine lv_iconst (v := (1 : Int32)) hx hb dX_compare_131 (by decide) ?_
    obtain ⟨z132, hz132, hfin⟩ := bd_ob hfin
    refine g_callMv [.int x4, .int a1, .int a2, .int (1 : Int32)] [] X hK x_rcv hI (cx_countAndJump l D cA o q hne u x4 a1 a2 (1 : Int32) z132 hz132) (cwX_X_countAndJump X.2.2.2.2 ⟨Nat.le_of_ble_eq_true rfl, Nat.le_of_ble_eq_true rfl⟩) rfl hl.1 rfl (Nat.le_of_ble_eq_true rfl) dX_compare_132 (fun H locs hI => ?_)
    exact g_vret X hr hlk hK hI hfin dX_compare_135
  rw [if_neg hk23_4] at hfin
  by_cases hk23_5 : ((a0 >>> ((3 : Int32) &&& 31)) &&& (7 : Int32)) = (5 : Int32)
  · rw [if_pos hk23_5] at hfin
    refine lv_tableIn hx hb dX_compare_23 (off := 113) (tgt := 136) (by rw [hk23_5]; decide) (by rw [hk23_5]; decide) (by rw [hk23_5]; rfl) (by decide) ?_
    refine lv_aload_n hx hb dX_compare_136 rfl (lv_at hl 2 rfl) ?_
    refine lv_iload hx hb dX_compare_137 (lv_at hl 1 rfl) ?_
    refine lv_iload_n hx hb dX_compare_139 rfl (lv_at hl 4 rfl) ?_
    refine lv_iload_n hx hb dX_compare_140 rfl (lv_at hl 5 rfl) ?_
    refine lv_iconst (v := (1 : Int32)) hx hb dX_compare_141 (by decide) ?_
    obtain ⟨z142, hz142, hfin⟩ := bd_ob hfin
    refine g_callMv [.int x4, .int a1, .int a2, .int (1 : Int32)] [] X hK x_rcv hI (cx_countAndSkip l D cA o q hne u x4 a1 a2 (1 : Int32) z142 hz142) (cwX_X_countAndSkip X.2.2.2.2 ⟨Nat.le_of_ble_eq_true rfl, Nat.le_of_ble_eq_true rfl⟩) rfl hl.1 rfl (Nat.le_of_ble_eq_true rfl) dX_compare_142 (fun H locs hI => ?_)
    exact g_vret X hr hlk hK hI hfin dX_compare_145
  rw [if_neg hk23_5] at hfin
  by_cases hk23_6 : ((a0 >>> ((3 : Int32) &&& 31)) &&& (7 : Int32)) = (6 : Int32)
  · rw [if_pos hk23_6] at hfin
    refine lv_tableIn hx hb dX_compare_23 (off := 123) (tgt := 146) (by rw [hk23_6]; decide) (by rw [hk23_6]; decide) (by rw [hk23_6]; rfl) (by decide) ?_
    refine lv_aload_n hx hb dX_compare_146 rfl (lv_at hl 2 rfl) ?_
    refine lv_iload hx hb dX_compare_147 (lv_at hl 1 rfl) ?_
    refine lv_iload_n hx hb dX_compare_149 rfl (lv_at hl 4 rfl) ?_
    refine lv_iload_n hx hb dX_compare_150 rfl (lv_at hl 5 rfl) ?_
    refine lv_iconst (v := (-1 : Int32)) hx hb dX_compare_151 (by decide) ?_
    obtain ⟨z152, hz152, hfin⟩ := bd_ob hfin
    refine g_callMv [.int x4, .int a1, .int a2, .int (-1 : Int32)] [] X hK x_rcv hI (cx_countAndJump l D cA o q hne u x4 a1 a2 (-1 : Int32) z152 hz152) (cwX_X_countAndJump X.2.2.2.2 ⟨Nat.le_of_ble_eq_true rfl, Nat.le_of_ble_eq_true rfl⟩) rfl hl.1 rfl (Nat.le_of_ble_eq_true rfl) dX_compare_152 (fun H locs hI => ?_)
    exact g_vret X hr hlk hK hI hfin dX_compare_155
  rw [if_neg hk23_6] at hfin
  have hn23_0 := i32_ne (0 : Int32) 0 (by decide) hk23_0
  have hn23_1 := i32_ne (1 : Int32) 1 (by decide) hk23_1
  have hn23_2 := i32_ne (2 : Int32) 2 (by decide) hk23_2
  have hn23_3 := i32_ne (3 : Int32) 3 (by decide) hk23_3
  have hn23_4 := i32_ne (4 : Int32) 4 (by decide) hk23_4
  have hn23_5 := i32_ne (5 : Int32) 5 (by decide) hk23_5
  have hn23_6 := i32_ne (6 : Int32) 6 (by decide) hk23_6
  refine lv_tableOut hx hb dX_compare_23 (tgt := 156) (by omega) (by decide) ?_
  refine lv_aload_n hx hb dX_compare_156 rfl (lv_at hl 2 rfl) ?_
  refine lv_iload hx hb dX_compare_157 (lv_at hl 1 rfl) ?_
  refine lv_iload_n hx hb dX_compare_159 rfl (lv_at hl 4 rfl) ?_
  refine lv_iload_n hx hb dX_compare_160 rfl (lv_at hl 5 rfl) ?_
  refine lv_iconst (v := (-1 : Int32)) hx hb dX_compare_161 (by decide) ?_
  obtain ⟨z162, hz162, hfin⟩ := bd_ob hfin
  refine g_callMv [.int x4, .int a1, .int a2, .int (-1 : Int32)] [] X hK x_rcv hI (cx_countAndSkip l D cA o q hne u x4 a1 a2 (-1 : Int32) z162 hz162) (cwX_X_countAndSkip X.2.2.2.2 ⟨Nat.le_of_ble_eq_true rfl, Nat.le_of_ble_eq_true rfl⟩) rfl hl.1 rfl (Nat.le_of_ble_eq_true rfl) dX_compare_162 (fun H locs hI => ?_)
  exact g_vret X hr hlk hK hI hfin dX_compare_165
set_option maxHeartbeats 4000000 in
set_option maxRecDepth 100000 in
theorem cx_logic (l : Launch) (D : va_G) (cA : ClassId) (o q : Nat) (hne : va_nd [o, q] = true) (u : XS) (a0 : Int32) (a1 : Int32) (a2 : Int32) (z : XS) (hfin : x_logic u a0 a1 a2 = some z) : gMv l yX_logic wX_logic (rmF 3 71) D [(cA, .long)] (XW cA o q) (XA o q) [.ref o, .int a0, .int a1, .int a2] u z := by
  refine g_start (plainFor_of_name (by decide)) (Nat.le_of_ble_eq_true rfl) ?_
  intro p e s0 m args below meth c ls X hr hlk hB hl
  obtain ⟨hP0, hK⟩ := hB
  have hI : gI D (XW cA o q) (XA o q) s0.heap s0.heap [] u := ⟨hP0, va_S.rf⟩
  have hl : lv_has ls 12 [(0, .ref o), (1, .int a0), (2, .int a1), (3, .int a2)] := hl
  have hx := X.1
  have hb := X.2.1
  have B_118 : ∀ (u : XS) (v4 : Int32) (v10 : Int64) (H : Heap) (locs : List Loc) (ls : Array Slot), lv_has ls 12 [(0, .ref o), (1, .int a0), (2, .int a1), (3, .int a2), (4, .int v4), (10, .long v10)] → gI D (XW cA o q) (XA o q) s0.heap H locs u → x_logic_118 a0 a1 a2 u v4 v10 = some z → W p l e (rmF 3 71) s0 m args below meth c H locs 0 0 (MQ below (va_Qv (fun x => x = z) (gB D [(cA, .long)] (XW cA o q)) (XA o q)) args s0 0 0 (XA o q)) (F0 m 118 ls []) := by
    intro u v4 v10 H locs ls hl hI hfin
    rw [x_logic_118] at hfin
    refine lv_aload_n hx hb dX_logic_118 rfl (lv_at hl 0 rfl) ?_
    refine lv_iload hx hb dX_logic_119 (lv_at hl 4 rfl) ?_
    refine lv_iload_n hx hb dX_logic_121 rfl (lv_at hl 2 rfl) ?_
    refine lv_iload_n hx hb dX_logic_122 rfl (lv_at hl 3 rfl) ?_
    refine lv_lload hx hb dX_logic_123 (lv_at hl 5 rfl) ?_
    refine lv_ldc2 hx hb X.2.2.2.1 (X.2.2.2.2 _ hkX_17) dX_logic_125 ?_
    refine lv_land hx hb dX_logic_128 ?_
    obtain ⟨z129, hz129, hfin⟩ := bd_ob hfin
    refine g_callMv [.int v4, .int a1, .int a2, .long (v10 &&& (68719476735 : Int64))] [] X hK x_rcv hI (cx_putResult l D cA o q hne u v4 a1 a2 (v10 &&& (68719476735 : Int64)) z129 hz129) (cwX_X_putResult X.2.2.2.2 ⟨Nat.le_of_ble_eq_true rfl, Nat.le_of_ble_eq_true rfl⟩) rfl hl.1 rfl (Nat.le_of_ble_eq_true rfl) dX_logic_129 (fun H locs hI => ?_)
    exact g_vret X hr hlk hK hI hfin dX_logic_132
  have B_101 : ∀ (u : XS) (v4 : Int32) (v5 : Int32) (v6 : Int64) (v8 : Int64) (v10 : Int64) (H : Heap) (locs : List Loc) (ls : Array Slot), lv_has ls 12 [(0, .ref o), (1, .int a0), (2, .int a1), (3, .int a2), (4, .int v4), (5, .int v5), (6, .long v6), (8, .long v8), (10, .long v10)] → gI D (XW cA o q) (XA o q) s0.heap H locs u → x_logic_101 a0 a1 a2 u v4 v5 v6 v8 v10 = some z → W p l e (rmF 3 71) s0 m args below meth c H locs 0 0 (MQ below (va_Qv (fun x => x = z) (gB D [(cA, .long)] (XW cA o q)) (XA o q)) args s0 0 0 (XA o q)) (F0 m 101 ls []) := by
    intro u v4 v5 v6 v8 v10 H locs ls hl hI hfin
    rw [x_logic_101] at hfin
    refine lv_iload hx hb dX_logic_101 (lv_at hl 5 rfl) ?_
    refine lv_iconst (v := (1 : Int32)) hx hb dX_logic_103 (by decide) ?_
    refine lv_iand hx hb dX_logic_104 ?_
    refine lv_if_eq (tgt := 118) hx hb dX_logic_105 (by decide) (fun hc105 => ?_) (fun hc105 => ?_)
    · rw [if_pos hc105] at hfin
      exact B_118 u v4 v10 H locs ls (lv_sub hl [0, 1, 2, 3, 4, 8] rfl) hI hfin
    rw [if_neg hc105] at hfin
    refine lv_lload hx hb dX_logic_108 (lv_at hl 8 rfl) ?_
    refine lv_lload hx hb dX_logic_110 (lv_at hl 6 rfl) ?_
    refine lv_lload hx hb dX_logic_112 (lv_at hl 7 rfl) ?_
    refine lv_land hx hb dX_logic_114 ?_
    refine lv_lor hx hb dX_logic_115 ?_
    refine lv_topl (fun x116 e116 => ?_)
    replace hfin := nm_at hfin e116
    refine lv_lstore (lv' := [(10, .long x116), (0, .ref o), (1, .int a0), (2, .int a1), (3, .int a2), (4, .int v4), (5, .int v5), (6, .long v6), (8, .long v8)]) hx hb dX_logic_116 hl (by decide) rfl (fun ls hl => ?_)
    exact B_118 u v4 x116 H locs ls (lv_sub hl [1, 2, 3, 4, 5, 0] rfl) hI hfin
  have B_80 : ∀ (u : XS) (v4 : Int32) (v5 : Int32) (v6 : Int64) (v8 : Int64) (v10 : Int64) (H : Heap) (locs : List Loc) (ls : Array Slot), lv_has ls 12 [(0, .ref o), (1, .int a0), (2, .int a1), (3, .int a2), (4, .int v4), (5, .int v5), (6, .long v6), (8, .long v8), (10, .long v10)] → gI D (XW cA o q) (XA o q) s0.heap H locs u → x_logic_80 a0 a1 a2 u v4 v5 v6 v8 v10 = some z → W p l e (rmF 3 71) s0 m args below meth c H locs 0 0 (MQ below (va_Qv (fun x => x = z) (gB D [(cA, .long)] (XW cA o q)) (XA o q)) args s0 0 0 (XA o q)) (F0 m 80 ls []) := by
    intro u v4 v5 v6 v8 v10 H locs ls hl hI hfin
    rw [x_logic_80] at hfin
    refine lv_iload hx hb dX_logic_80 (lv_at hl 5 rfl) ?_
    refine lv_iconst (v := (2 : Int32)) hx hb dX_logic_82 (by decide) ?_
    refine lv_iand hx hb dX_logic_83 ?_
    refine lv_if_eq (tgt := 101) hx hb dX_logic_84 (by decide) (fun hc84 => ?_) (fun hc84 => ?_)
    · rw [if_pos hc84] at hfin
      exact B_101 u v4 v5 v6 v8 v10 H locs ls (lv_sub hl [0, 1, 2, 3, 4, 5, 6, 7, 8] rfl) hI hfin
    rw [if_neg hc84] at hfin
    refine lv_lload hx hb dX_logic_87 (lv_at hl 8 rfl) ?_
    refine lv_lload hx hb dX_logic_89 (lv_at hl 6 rfl) ?_
    refine lv_lload hx hb dX_logic_91 (lv_at hl 7 rfl) ?_
    refine lv_ldc2 hx hb X.2.2.2.1 (X.2.2.2.2 _ hkX_19) dX_logic_93 ?_
    refine lv_lxor hx hb dX_logic_96 ?_
    refine lv_land hx hb dX_logic_97 ?_
    refine lv_lor hx hb dX_logic_98 ?_
    refine lv_topl (fun x99 e99 => ?_)
    replace hfin := nm_at hfin e99
    refine lv_lstore (lv' := [(10, .long x99), (0, .ref o), (1, .int a0), (2, .int a1), (3, .int a2), (4, .int v4), (5, .int v5), (6, .long v6), (8, .long v8)]) hx hb dX_logic_99 hl (by decide) rfl (fun ls hl => ?_)
    exact B_101 u v4 v5 v6 v8 x99 H locs ls (lv_sub hl [1, 2, 3, 4, 5, 6, 7, 8, 0] rfl) hI hfin
  have B_59 : ∀ (u : XS) (v4 : Int32) (v5 : Int32) (v6 : Int64) (v8 : Int64) (v10 : Int64) (H : Heap) (locs : List Loc) (ls : Array Slot), lv_has ls 12 [(0, .ref o), (1, .int a0), (2, .int a1), (3, .int a2), (4, .int v4), (5, .int v5), (6, .long v6), (8, .long v8), (10, .long v10)] → gI D (XW cA o q) (XA o q) s0.heap H locs u → x_logic_59 a0 a1 a2 u v4 v5 v6 v8 v10 = some z → W p l e (rmF 3 71) s0 m args below meth c H locs 0 0 (MQ below (va_Qv (fun x => x = z) (gB D [(cA, .long)] (XW cA o q)) (XA o q)) args s0 0 0 (XA o q)) (F0 m 59 ls []) := by
    intro u v4 v5 v6 v8 v10 H locs ls hl hI hfin
    rw [x_logic_59] at hfin
    refine lv_iload hx hb dX_logic_59 (lv_at hl 5 rfl) ?_
    refine lv_iconst (v := (4 : Int32)) hx hb dX_logic_61 (by decide) ?_
    refine lv_iand hx hb dX_logic_62 ?_
    refine lv_if_eq (tgt := 80) hx hb dX_logic_63 (by decide) (fun hc63 => ?_) (fun hc63 => ?_)
    · rw [if_pos hc63] at hfin
      exact B_80 u v4 v5 v6 v8 v10 H locs ls (lv_sub hl [0, 1, 2, 3, 4, 5, 6, 7, 8] rfl) hI hfin
    rw [if_neg hc63] at hfin
    refine lv_lload hx hb dX_logic_66 (lv_at hl 8 rfl) ?_
    refine lv_lload hx hb dX_logic_68 (lv_at hl 6 rfl) ?_
    refine lv_ldc2 hx hb X.2.2.2.1 (X.2.2.2.2 _ hkX_19) dX_logic_70 ?_
    refine lv_lxor hx hb dX_logic_73 ?_
    refine lv_lload hx hb dX_logic_74 (lv_at hl 7 rfl) ?_
    refine lv_land hx hb dX_logic_76 ?_
    refine lv_lor hx hb dX_logic_77 ?_
    refine lv_topl (fun x78 e78 => ?_)
    replace hfin := nm_at hfin e78
    refine lv_lstore (lv' := [(10, .long x78), (0, .ref o), (1, .int a0), (2, .int a1), (3, .int a2), (4, .int v4), (5, .int v5), (6, .long v6), (8, .long v8)]) hx hb dX_logic_78 hl (by decide) rfl (fun ls hl => ?_)
    exact B_80 u v4 v5 v6 v8 x78 H locs ls (lv_sub hl [1, 2, 3, 4, 5, 6, 7, 8, 0] rfl) hI hfin
  rw [x_logic] at hfin
  refine lv_iload_n hx hb dX_logic_0 rfl (lv_at hl 1 rfl) ?_
  refine lv_iconst (v := (3 : Int32)) hx hb dX_logic_1 (by decide) ?_
  refine lv_iand hx hb dX_logic_2 ?_
  refine lv_topi (fun x3 e3 => ?_)
  replace hfin := nm_at hfin e3
  refine lv_istore (lv' := [(4, .int x3), (0, .ref o), (1, .int a0), (2, .int a1), (3, .int a2)]) hx hb dX_logic_3 hl (by decide) rfl (fun ls hl => ?_)
  refine lv_iload_n hx hb dX_logic_5 rfl (lv_at hl 2 rfl) ?_
  refine lv_iconst (v := (2 : Int32)) hx hb dX_logic_6 (by decide) ?_
  refine lv_ishr hx hb dX_logic_7 ?_
  refine lv_bipush (v := (15 : Int32)) hx hb dX_logic_8 (by decide) ?_
  refine lv_iand hx hb dX_logic_10 ?_
  refine lv_topi (fun x11 e11 => ?_)
  replace hfin := nm_at hfin e11
  refine lv_istore (lv' := [(5, .int x11), (4, .int x3), (0, .ref o), (1, .int a0), (2, .int a1), (3, .int a2)]) hx hb dX_logic_11 hl (by decide) rfl (fun ls hl => ?_)
  refine lv_aload_n hx hb dX_logic_13 rfl (lv_at hl 2 rfl) ?_
  refine xg_words X hK hI.1 dX_logic_14 ?_
  refine lv_iload_n hx hb dX_logic_17 rfl (lv_at hl 4 rfl) ?_
  obtain ⟨hd18, hfin⟩ := ck_if hfin
  refine xl_words X hK hI.1 hd18 dX_logic_18 ?_
  refine lv_topl (fun x19 e19 => ?_)
  replace hfin := nm_at hfin e19
  refine lv_lstore (lv' := [(6, .long x19), (5, .int x11), (4, .int x3), (0, .ref o), (1, .int a0), (2, .int a1), (3, .int a2)]) hx hb dX_logic_19 hl (by decide) rfl (fun ls hl => ?_)
  refine lv_aload_n hx hb dX_logic_21 rfl (lv_at hl 3 rfl) ?_
  refine lv_iload hx hb dX_logic_22 (lv_at hl 2 rfl) ?_
  refine lv_iload_n hx hb dX_logic_24 rfl (lv_at hl 6 rfl) ?_
  obtain ⟨z25, hz25, hfin⟩ := bd_ob hfin
  refine g_callMl [.int x3, .int a2] [] X hK x_rcv hI (cx_source l D cA o q hne u x3 a2 z25 hz25) (cwX_X_source X.2.2.2.2 ⟨Nat.le_of_ble_eq_true rfl, Nat.le_of_ble_eq_true rfl⟩) rfl hl.1 rfl (Nat.le_of_ble_eq_true rfl) dX_logic_25 (fun H locs hI => ?_)
  refine lv_lstore (lv' := [(8, .long z25.1), (6, .long x19), (5, .int x11), (4, .int x3), (0, .ref o), (1, .int a0), (2, .int a1), (3, .int a2)]) hx hb dX_logic_28 hl (by decide) rfl (fun ls hl => ?_)
  refine lv_lconst (v := (0 : Int64)) hx hb dX_logic_30 (by decide) ?_
  refine lv_lstore (lv' := [(10, .long (0 : Int64)), (8, .long z25.1), (6, .long x19), (5, .int x11), (4, .int x3), (0, .ref o), (1, .int a0), (2, .int a1), (3, .int a2)]) hx hb dX_logic_31 hl (by decide) rfl (fun ls hl => ?_)
  refine lv_iload hx hb dX_logic_33 (lv_at hl 3 rfl) ?_
  refine lv_bipush (v := (8 : Int32)) hx hb dX_logic_35 (by decide) ?_
  refine lv_iand hx hb dX_logic_37 ?_
  refine lv_if_eq (tgt := 59) hx hb dX_logic_38 (by decide) (fun hc38 => ?_) (fun hc38 => ?_)
  · rw [if_pos hc38] at hfin
    exact B_59 z25.2 x3 x11 x19 z25.1 (0 : Int64) H locs ls (lv_sub hl [5, 6, 7, 8, 4, 3, 2, 1, 0] rfl) hI hfin
  rw [if_neg hc38] at hfin
  refine lv_lload hx hb dX_logic_41 (lv_at hl 0 rfl) ?_
  refine lv_lload hx hb dX_logic_43 (lv_at hl 2 rfl) ?_
  refine lv_ldc2 hx hb X.2.2.2.1 (X.2.2.2.2 _ hkX_19) dX_logic_45 ?_
  refine lv_lxor hx hb dX_logic_48 ?_
  refine lv_lload hx hb dX_logic_49 (lv_at hl 1 rfl) ?_
  refine lv_ldc2 hx hb X.2.2.2.1 (X.2.2.2.2 _ hkX_19) dX_logic_51 ?_
  refine lv_lxor hx hb dX_logic_54 ?_
  refine lv_land hx hb dX_logic_55 ?_
  refine lv_lor hx hb dX_logic_56 ?_
  refine lv_topl (fun x57 e57 => ?_)
  replace hfin := nm_at hfin e57
  refine lv_lstore (lv' := [(10, .long x57), (8, .long z25.1), (6, .long x19), (5, .int x11), (4, .int x3), (0, .ref o), (1, .int a0), (2, .int a1), (3, .int a2)]) hx hb dX_logic_57 hl (by decide) rfl (fun ls hl => ?_)
  exact B_59 z25.2 x3 x11 x19 z25.1 x57 H locs ls (lv_sub hl [5, 6, 7, 8, 4, 3, 2, 1, 0] rfl) hI hfin
set_option maxHeartbeats 4000000 in
set_option maxRecDepth 100000 in
theorem cx_otherHalf (l : Launch) (a0 : Int32) (a1 : Int32) (a2 : Int32) : gPi l yX_otherHalf wX_otherHalf (rmF 0 0) [.int a0, .int a1, .int a2] (x_otherHalf a0 a1 a2) := by
  obtain ⟨z, hz⟩ : ∃ z, z = x_otherHalf a0 a1 a2 := ⟨_, rfl⟩
  rw [← hz]
  have hfin := hz.symm
  clear hz
  refine g_start (plainFor_of_name (by decide)) (Nat.le_of_ble_eq_true rfl) ?_
  intro p e s0 m args below meth c ls X hr hlk hB hl
  have hl : lv_has ls 3 [(0, .int a0), (1, .int a1), (2, .int a2)] := hl
  have hx := X.1
  have hb := X.2.1
  rw [x_otherHalf] at hfin
  refine lv_iload_n hx hb dX_otherHalf_0 rfl (lv_at hl 0 rfl) ?_
  by_cases hk1_0 : a0 = (0 : Int32)
  · rw [if_pos hk1_0] at hfin
    refine lv_tableIn hx hb dX_otherHalf_1 (off := 27) (tgt := 28) (by rw [hk1_0]; decide) (by rw [hk1_0]; decide) (by rw [hk1_0]; rfl) (by decide) ?_
    refine lv_iload_n hx hb dX_otherHalf_28 rfl (lv_at hl 2 rfl) ?_
    exact g_iretP X hr hlk hfin dX_otherHalf_29
  rw [if_neg hk1_0] at hfin
  by_cases hk1_1 : a0 = (1 : Int32)
  · rw [if_pos hk1_1] at hfin
    refine lv_tableIn hx hb dX_otherHalf_1 (off := 29) (tgt := 30) (by rw [hk1_1]; decide) (by rw [hk1_1]; decide) (by rw [hk1_1]; rfl) (by decide) ?_
    refine lv_iconst (v := (0 : Int32)) hx hb dX_otherHalf_30 (by decide) ?_
    exact g_iretP X hr hlk hfin dX_otherHalf_31
  rw [if_neg hk1_1] at hfin
  by_cases hk1_2 : a0 = (2 : Int32)
  · rw [if_pos hk1_2] at hfin
    refine lv_tableIn hx hb dX_otherHalf_1 (off := 31) (tgt := 32) (by rw [hk1_2]; decide) (by rw [hk1_2]; decide) (by rw [hk1_2]; rfl) (by decide) ?_
    refine lv_ldc hx hb X.2.2.2.1 (X.2.2.2.2 _ hkX_41) dX_otherHalf_32 ?_
    exact g_iretP X hr hlk hfin dX_otherHalf_34
  rw [if_neg hk1_2] at hfin
  have hn1_0 := i32_ne (0 : Int32) 0 (by decide) hk1_0
  have hn1_1 := i32_ne (1 : Int32) 1 (by decide) hk1_1
  have hn1_2 := i32_ne (2 : Int32) 2 (by decide) hk1_2
  refine lv_tableOut hx hb dX_otherHalf_1 (tgt := 35) (by omega) (by decide) ?_
  refine lv_iload_n hx hb dX_otherHalf_35 rfl (lv_at hl 1 rfl) ?_
  refine lv_ldc hx hb X.2.2.2.1 (X.2.2.2.2 _ hkX_110) dX_otherHalf_36 ?_
  refine lv_iand hx hb dX_otherHalf_38 ?_
  refine lv_if_eq (tgt := 47) hx hb dX_otherHalf_39 (by decide) (fun hc39 => ?_) (fun hc39 => ?_)
  · rw [if_pos hc39] at hfin
    refine lv_iconst (v := (0 : Int32)) hx hb dX_otherHalf_47 (by decide) ?_
    exact g_iretP X hr hlk hfin dX_otherHalf_48
  rw [if_neg hc39] at hfin
  refine lv_ldc hx hb X.2.2.2.1 (X.2.2.2.2 _ hkX_41) dX_otherHalf_42 ?_
  refine lv_goto (tgt := 48) hx hb dX_otherHalf_44 (by decide) ?_
  exact g_iretP X hr hlk hfin dX_otherHalf_48
set_option maxHeartbeats 4000000 in
set_option maxRecDepth 100000 in
theorem cx_halves (l : Launch) (D : va_G) (cA : ClassId) (o q : Nat) (hne : va_nd [o, q] = true) (u : XS) (a0 : Int32) (a1 : Int32) (a2 : Int32) (z : XS) (hfin : x_halves u a0 a1 a2 = some z) : gMv l yX_halves wX_halves (rmF 4 89) D [(cA, .long)] (XW cA o q) (XA o q) [.ref o, .int a0, .int a1, .int a2] u z := by
  refine g_start (plainFor_of_name (by decide)) (Nat.le_of_ble_eq_true rfl) ?_
  intro p e s0 m args below meth c ls X hr hlk hB hl
  obtain ⟨hP0, hK⟩ := hB
  have hI : gI D (XW cA o q) (XA o q) s0.heap s0.heap [] u := ⟨hP0, va_S.rf⟩
  have hl : lv_has ls 13 [(0, .ref o), (1, .int a0), (2, .int a1), (3, .int a2)] := hl
  have hx := X.1
  have hb := X.2.1
  have B_143 : ∀ (u : XS) (t1 : Int32) (t2 : Int32) (t3 : Int32) (t4 : Int64) (H : Heap) (locs : List Loc) (ls : Array Slot), lv_has ls 13 [(0, .ref o), (1, .int a0), (2, .int a1), (3, .int a2)] → gI D (XW cA o q) (XA o q) s0.heap H locs u → x_halves_143 a0 a1 a2 u t1 t2 t3 t4 = some z → W p l e (rmF 4 89) s0 m args below meth c H locs 0 0 (MQ below (va_Qv (fun x => x = z) (gB D [(cA, .long)] (XW cA o q)) (XA o q)) args s0 0 0 (XA o q)) (F0 m 143 ls [.long t4, .int t3, .int t2, .int t1, .ref o]) := by
    intro u t1 t2 t3 t4 H locs ls hl hI hfin
    rw [x_halves_143] at hfin
    obtain ⟨z143, hz143, hfin⟩ := bd_ob hfin
    refine g_callMv [.int t1, .int t2, .int t3, .long t4] [] X hK x_rcv hI (cx_putMoved l D cA o q hne u t1 t2 t3 t4 z143 hz143) (cwX_X_putMoved X.2.2.2.2 ⟨Nat.le_of_ble_eq_true rfl, Nat.le_of_ble_eq_true rfl⟩) rfl hl.1 rfl (Nat.le_of_ble_eq_true rfl) dX_halves_143 (fun H locs hI => ?_)
    exact g_vret X hr hlk hK hI hfin dX_halves_146
  have B_111 : ∀ (u : XS) (v4 : Int32) (v5 : Int32) (v11 : Int32) (t0 : Int32) (t1 : Int32) (t2 : Int32) (H : Heap) (locs : List Loc) (ls : Array Slot), lv_has ls 13 [(0, .ref o), (1, .int a0), (2, .int a1), (3, .int a2), (4, .int v4), (5, .int v5), (11, .int v11)] → gI D (XW cA o q) (XA o q) s0.heap H locs u → x_halves_111 a0 a1 a2 u v4 v5 v11 t0 t1 t2 = some z → W p l e (rmF 4 89) s0 m args below meth c H locs 0 0 (MQ below (va_Qv (fun x => x = z) (gB D [(cA, .long)] (XW cA o q)) (XA o q)) args s0 0 0 (XA o q)) (F0 m 111 ls [.int t2, .int t1, .int t0]) := by
    intro u v4 v5 v11 t0 t1 t2 H locs ls hl hI hfin
    rw [x_halves_111] at hfin
    refine g_callPi [.int t0, .int t1, .int t2] [] X (cx_otherHalf l t0 t1 t2) (cwX_X_otherHalf X.2.2.2.2 ⟨Nat.le_of_ble_eq_true rfl, Nat.le_of_ble_eq_true rfl⟩) rfl hl.1 rfl (Nat.le_of_ble_eq_true rfl) dX_halves_111 ?_
    refine lv_topi (fun x114 e114 => ?_)
    replace hfin := nm_at hfin e114
    refine lv_istore (lv' := [(12, .int x114), (0, .ref o), (1, .int a0), (2, .int a1), (3, .int a2), (4, .int v4), (5, .int v5), (11, .int v11)]) hx hb dX_halves_114 hl (by decide) rfl (fun ls hl => ?_)
    refine lv_aload_n hx hb dX_halves_116 rfl (lv_at hl 1 rfl) ?_
    refine lv_iload hx hb dX_halves_117 (lv_at hl 5 rfl) ?_
    refine lv_iload_n hx hb dX_halves_119 rfl (lv_at hl 3 rfl) ?_
    refine lv_iload_n hx hb dX_halves_120 rfl (lv_at hl 4 rfl) ?_
    refine lv_iload hx hb dX_halves_121 (lv_at hl 6 rfl) ?_
    refine lv_if_eq (tgt := 136) hx hb dX_halves_123 (by decide) (fun hc123 => ?_) (fun hc123 => ?_)
    · rw [if_pos hc123] at hfin
      refine lv_iload hx hb dX_halves_136 (lv_at hl 7 rfl) ?_
      refine lv_iload hx hb dX_halves_138 (lv_at hl 0 rfl) ?_
      refine g_callPl [.int v11, .int x114] [.int a2, .int a1, .int v4, .ref o] X (cx_joined l v11 x114) (cwX_X_joined X.2.2.2.2 ⟨Nat.le_of_ble_eq_true rfl, Nat.le_of_ble_eq_true rfl⟩) rfl hl.1 rfl (Nat.le_of_ble_eq_true rfl) dX_halves_140 ?_
      exact B_143 u v4 a1 a2 (x_joined v11 x114) H locs ls (lv_sub hl [1, 2, 3, 4] rfl) hI hfin
    rw [if_neg hc123] at hfin
    refine lv_iload hx hb dX_halves_126 (lv_at hl 0 rfl) ?_
    refine lv_iload hx hb dX_halves_128 (lv_at hl 7 rfl) ?_
    refine g_callPl [.int x114, .int v11] [.int a2, .int a1, .int v4, .ref o] X (cx_joined l x114 v11) (cwX_X_joined X.2.2.2.2 ⟨Nat.le_of_ble_eq_true rfl, Nat.le_of_ble_eq_true rfl⟩) rfl hl.1 rfl (Nat.le_of_ble_eq_true rfl) dX_halves_130 ?_
    refine lv_goto (tgt := 143) hx hb dX_halves_133 (by decide) ?_
    exact B_143 u v4 a1 a2 (x_joined x114 v11) H locs ls (lv_sub hl [1, 2, 3, 4] rfl) hI hfin
  have B_84 : ∀ (u : XS) (v4 : Int32) (v5 : Int32) (v9 : Int64) (t0 : Int32) (H : Heap) (locs : List Loc) (ls : Array Slot), lv_has ls 13 [(0, .ref o), (1, .int a0), (2, .int a1), (3, .int a2), (4, .int v4), (5, .int v5), (9, .long v9)] → gI D (XW cA o q) (XA o q) s0.heap H locs u → x_halves_84 a0 a1 a2 u v4 v5 v9 t0 = some z → W p l e (rmF 4 89) s0 m args below meth c H locs 0 0 (MQ below (va_Qv (fun x => x = z) (gB D [(cA, .long)] (XW cA o q)) (XA o q)) args s0 0 0 (XA o q)) (F0 m 84 ls [.int t0]) := by
    intro u v4 v5 v9 t0 H locs ls hl hI hfin
    rw [x_halves_84] at hfin
    refine lv_istore (lv' := [(11, .int t0), (0, .ref o), (1, .int a0), (2, .int a1), (3, .int a2), (4, .int v4), (5, .int v5), (9, .long v9)]) hx hb dX_halves_84 hl (by decide) rfl (fun ls hl => ?_)
    refine lv_iload_n hx hb dX_halves_86 rfl (lv_at hl 2 rfl) ?_
    refine lv_iconst (v := (3 : Int32)) hx hb dX_halves_87 (by decide) ?_
    refine lv_ishr hx hb dX_halves_88 ?_
    refine lv_iconst (v := (3 : Int32)) hx hb dX_halves_89 (by decide) ?_
    refine lv_iand hx hb dX_halves_90 ?_
    refine lv_iload hx hb dX_halves_91 (lv_at hl 0 rfl) ?_
    refine lv_iload hx hb dX_halves_93 (lv_at hl 6 rfl) ?_
    refine lv_if_eq (tgt := 106) hx hb dX_halves_95 (by decide) (fun hc95 => ?_) (fun hc95 => ?_)
    · rw [if_pos hc95] at hfin
      refine lv_lload hx hb dX_halves_106 (lv_at hl 7 rfl) ?_
      refine g_callPi [.long v9] [.int t0, .int ((a0 >>> ((3 : Int32) &&& 31)) &&& (3 : Int32))] X (cx_right l v9) (cwX_X_right X.2.2.2.2 ⟨Nat.le_of_ble_eq_true rfl, Nat.le_of_ble_eq_true rfl⟩) rfl hl.1 rfl (Nat.le_of_ble_eq_true rfl) dX_halves_108 ?_
      exact B_111 u v4 v5 t0 ((a0 >>> ((3 : Int32) &&& 31)) &&& (3 : Int32)) t0 (x_right v9) H locs ls (lv_sub hl [1, 2, 3, 4, 5, 6, 0] rfl) hI hfin
    rw [if_neg hc95] at hfin
    refine lv_lload hx hb dX_halves_98 (lv_at hl 7 rfl) ?_
    refine g_callPi [.long v9] [.int t0, .int ((a0 >>> ((3 : Int32) &&& 31)) &&& (3 : Int32))] X (cx_left l v9) (cwX_X_left X.2.2.2.2 ⟨Nat.le_of_ble_eq_true rfl, Nat.le_of_ble_eq_true rfl⟩) rfl hl.1 rfl (Nat.le_of_ble_eq_true rfl) dX_halves_100 ?_
    refine lv_goto (tgt := 111) hx hb dX_halves_103 (by decide) ?_
    exact B_111 u v4 v5 t0 ((a0 >>> ((3 : Int32) &&& 31)) &&& (3 : Int32)) t0 (x_left v9) H locs ls (lv_sub hl [1, 2, 3, 4, 5, 6, 0] rfl) hI hfin
  have B_62 : ∀ (u : XS) (v4 : Int32) (v5 : Int32) (v6 : Int32) (v7 : Int64) (t0 : Int64) (H : Heap) (locs : List Loc) (ls : Array Slot), lv_has ls 13 [(0, .ref o), (1, .int a0), (2, .int a1), (3, .int a2), (4, .int v4), (5, .int v5), (6, .int v6), (7, .long v7)] → gI D (XW cA o q) (XA o q) s0.heap H locs u → x_halves_62 a0 a1 a2 u v4 v5 v6 v7 t0 = some z → W p l e (rmF 4 89) s0 m args below meth c H locs 0 0 (MQ below (va_Qv (fun x => x = z) (gB D [(cA, .long)] (XW cA o q)) (XA o q)) args s0 0 0 (XA o q)) (F0 m 62 ls [.long t0]) := by
    intro u v4 v5 v6 v7 t0 H locs ls hl hI hfin
    rw [x_halves_62] at hfin
    refine lv_lstore (lv' := [(9, .long t0), (0, .ref o), (1, .int a0), (2, .int a1), (3, .int a2), (4, .int v4), (5, .int v5), (6, .int v6), (7, .long v7)]) hx hb dX_halves_62 hl (by decide) rfl (fun ls hl => ?_)
    refine lv_iload hx hb dX_halves_64 (lv_at hl 6 rfl) ?_
    refine lv_iload hx hb dX_halves_66 (lv_at hl 7 rfl) ?_
    refine lv_icmp_eq (tgt := 79) hx hb dX_halves_68 (by decide) (fun hc68 => ?_) (fun hc68 => ?_)
    · rw [if_pos hc68] at hfin
      refine lv_lload hx hb dX_halves_79 (lv_at hl 8 rfl) ?_
      refine g_callPi [.long v7] [] X (cx_left l v7) (cwX_X_left X.2.2.2.2 ⟨Nat.le_of_ble_eq_true rfl, Nat.le_of_ble_eq_true rfl⟩) rfl hl.1 rfl (Nat.le_of_ble_eq_true rfl) dX_halves_81 ?_
      exact B_84 u v4 v5 t0 (x_left v7) H locs ls (lv_sub hl [1, 2, 3, 4, 5, 6, 0] rfl) hI hfin
    rw [if_neg hc68] at hfin
    refine lv_lload hx hb dX_halves_71 (lv_at hl 8 rfl) ?_
    refine g_callPi [.long v7] [] X (cx_right l v7) (cwX_X_right X.2.2.2.2 ⟨Nat.le_of_ble_eq_true rfl, Nat.le_of_ble_eq_true rfl⟩) rfl hl.1 rfl (Nat.le_of_ble_eq_true rfl) dX_halves_73 ?_
    refine lv_goto (tgt := 84) hx hb dX_halves_76 (by decide) ?_
    exact B_84 u v4 v5 t0 (x_right v7) H locs ls (lv_sub hl [1, 2, 3, 4, 5, 6, 0] rfl) hI hfin
  have B_30 : ∀ (u : XS) (v4 : Int32) (v5 : Int32) (t0 : Int32) (H : Heap) (locs : List Loc) (ls : Array Slot), lv_has ls 13 [(0, .ref o), (1, .int a0), (2, .int a1), (3, .int a2), (4, .int v4), (5, .int v5)] → gI D (XW cA o q) (XA o q) s0.heap H locs u → x_halves_30 a0 a1 a2 u v4 v5 t0 = some z → W p l e (rmF 4 89) s0 m args below meth c H locs 0 0 (MQ below (va_Qv (fun x => x = z) (gB D [(cA, .long)] (XW cA o q)) (XA o q)) args s0 0 0 (XA o q)) (F0 m 30 ls [.int t0]) := by
    intro u v4 v5 t0 H locs ls hl hI hfin
    rw [x_halves_30] at hfin
    refine lv_istore (lv' := [(6, .int t0), (0, .ref o), (1, .int a0), (2, .int a1), (3, .int a2), (4, .int v4), (5, .int v5)]) hx hb dX_halves_30 hl (by decide) rfl (fun ls hl => ?_)
    refine lv_aload_n hx hb dX_halves_32 rfl (lv_at hl 1 rfl) ?_
    refine lv_iload hx hb dX_halves_33 (lv_at hl 5 rfl) ?_
    refine lv_iload_n hx hb dX_halves_35 rfl (lv_at hl 3 rfl) ?_
    refine lv_iload_n hx hb dX_halves_36 rfl (lv_at hl 4 rfl) ?_
    obtain ⟨z37, hz37, hfin⟩ := bd_ob hfin
    refine g_callMl [.int v4, .int a1, .int a2] [] X hK x_rcv hI (cx_movedSource l D cA o q hne u v4 a1 a2 z37 hz37) (cwX_X_movedSource X.2.2.2.2 ⟨Nat.le_of_ble_eq_true rfl, Nat.le_of_ble_eq_true rfl⟩) rfl hl.1 rfl (Nat.le_of_ble_eq_true rfl) dX_halves_37 (fun H locs hI => ?_)
    refine lv_lstore (lv' := [(7, .long z37.1), (6, .int t0), (0, .ref o), (1, .int a0), (2, .int a1), (3, .int a2), (4, .int v4), (5, .int v5)]) hx hb dX_halves_40 hl (by decide) rfl (fun ls hl => ?_)
    refine lv_iload hx hb dX_halves_42 (lv_at hl 6 rfl) ?_
    refine lv_iconst (v := (2 : Int32)) hx hb dX_halves_44 (by decide) ?_
    refine lv_icmp_lt (tgt := 56) hx hb dX_halves_45 (by decide) (fun hc45 => ?_) (fun hc45 => ?_)
    · rw [if_pos hc45] at hfin
      refine lv_aload_n hx hb dX_halves_56 rfl (lv_at hl 2 rfl) ?_
      refine xg_words X hK hI.1 dX_halves_57 ?_
      refine lv_iload_n hx hb dX_halves_60 rfl (lv_at hl 4 rfl) ?_
      obtain ⟨hd61, hfin⟩ := ck_if hfin
      refine xl_words X hK hI.1 hd61 dX_halves_61 ?_
      exact B_62 z37.2 v4 v5 t0 z37.1 (X_words z37.2 a1.toNatClampNeg) H locs ls (lv_sub hl [2, 3, 4, 5, 6, 7, 1, 0] rfl) hI hfin
    rw [if_neg hc45] at hfin
    refine lv_aload_n hx hb dX_halves_48 rfl (lv_at hl 2 rfl) ?_
    refine lv_iload_n hx hb dX_halves_49 rfl (lv_at hl 5 rfl) ?_
    obtain ⟨z50, hz50, hfin⟩ := bd_ob hfin
    refine g_callMl [.int a2] [] X hK x_rcv hI (cx_read l D cA o q hne z37.2 a2 z50 hz50) (cwX_X_read X.2.2.2.2 ⟨Nat.le_of_ble_eq_true rfl, Nat.le_of_ble_eq_true rfl⟩) rfl hl.1 rfl (Nat.le_of_ble_eq_true rfl) dX_halves_50 (fun H locs hI => ?_)
    refine lv_goto (tgt := 62) hx hb dX_halves_53 (by decide) ?_
    exact B_62 z50.2 v4 v5 t0 z37.1 z50.1 H locs ls (lv_sub hl [2, 3, 4, 5, 6, 7, 1, 0] rfl) hI hfin
  have B_17 : ∀ (u : XS) (v4 : Int32) (t0 : Int32) (H : Heap) (locs : List Loc) (ls : Array Slot), lv_has ls 13 [(0, .ref o), (1, .int a0), (2, .int a1), (3, .int a2), (4, .int v4)] → gI D (XW cA o q) (XA o q) s0.heap H locs u → x_halves_17 a0 a1 a2 u v4 t0 = some z → W p l e (rmF 4 89) s0 m args below meth c H locs 0 0 (MQ below (va_Qv (fun x => x = z) (gB D [(cA, .long)] (XW cA o q)) (XA o q)) args s0 0 0 (XA o q)) (F0 m 17 ls [.int t0]) := by
    intro u v4 t0 H locs ls hl hI hfin
    rw [x_halves_17] at hfin
    refine lv_istore (lv' := [(5, .int t0), (0, .ref o), (1, .int a0), (2, .int a1), (3, .int a2), (4, .int v4)]) hx hb dX_halves_17 hl (by decide) rfl (fun ls hl => ?_)
    refine lv_iload_n hx hb dX_halves_19 rfl (lv_at hl 2 rfl) ?_
    refine lv_iconst (v := (4 : Int32)) hx hb dX_halves_20 (by decide) ?_
    refine lv_iand hx hb dX_halves_21 ?_
    refine lv_if_eq (tgt := 29) hx hb dX_halves_22 (by decide) (fun hc22 => ?_) (fun hc22 => ?_)
    · rw [if_pos hc22] at hfin
      refine lv_iconst (v := (0 : Int32)) hx hb dX_halves_29 (by decide) ?_
      exact B_30 u v4 t0 (0 : Int32) H locs ls (lv_sub hl [1, 2, 3, 4, 5, 0] rfl) hI hfin
    rw [if_neg hc22] at hfin
    refine lv_iconst (v := (1 : Int32)) hx hb dX_halves_25 (by decide) ?_
    refine lv_goto (tgt := 30) hx hb dX_halves_26 (by decide) ?_
    exact B_30 u v4 t0 (1 : Int32) H locs ls (lv_sub hl [1, 2, 3, 4, 5, 0] rfl) hI hfin
  rw [x_halves] at hfin
  refine lv_iload_n hx hb dX_halves_0 rfl (lv_at hl 1 rfl) ?_
  refine lv_iconst (v := (3 : Int32)) hx hb dX_halves_1 (by decide) ?_
  refine lv_iand hx hb dX_halves_2 ?_
  refine lv_topi (fun x3 e3 => ?_)
  replace hfin := nm_at hfin e3
  refine lv_istore (lv' := [(4, .int x3), (0, .ref o), (1, .int a0), (2, .int a1), (3, .int a2)]) hx hb dX_halves_3 hl (by decide) rfl (fun ls hl => ?_)
  refine lv_iload_n hx hb dX_halves_5 rfl (lv_at hl 2 rfl) ?_
  refine lv_bipush (v := (32 : Int32)) hx hb dX_halves_6 (by decide) ?_
  refine lv_iand hx hb dX_halves_8 ?_
  refine lv_if_eq (tgt := 16) hx hb dX_halves_9 (by decide) (fun hc9 => ?_) (fun hc9 => ?_)
  · rw [if_pos hc9] at hfin
    refine lv_iconst (v := (0 : Int32)) hx hb dX_halves_16 (by decide) ?_
    exact B_17 u x3 (0 : Int32) s0.heap [] ls (lv_sub hl [1, 2, 3, 4, 0] rfl) hI hfin
  rw [if_neg hc9] at hfin
  refine lv_iconst (v := (1 : Int32)) hx hb dX_halves_12 (by decide) ?_
  refine lv_goto (tgt := 17) hx hb dX_halves_13 (by decide) ?_
  exact B_17 u x3 (1 : Int32) s0.heap [] ls (lv_sub hl [1, 2, 3, 4, 0] rfl) hI hfin
end
section
set_option maxHeartbeats 4000000 in
set_option maxRecDepth 100000 in
theorem cx_testSkips (l : Launch) (a0 : Int32) (a1 : Int64) : gPi l yX_testSkips wX_testSkips (rmF 0 0) [.int a0, .long a1] (x_testSkips a0 a1) := by
  obtain ⟨z, hz⟩ : ∃ z, z = x_testSkips a0 a1 := ⟨_, rfl⟩
  rw [← hz]
  have hfin := hz.symm
  clear hz
  refine g_start (plainFor_of_name (by decide)) (Nat.le_of_ble_eq_true rfl) ?_
  intro p e s0 m args below meth c ls X hr hlk hB hl
  have hl : lv_has ls 3 [(0, .int a0), (1, .long a1)] := hl
  have hx := X.1
  have hb := X.2.1
  rw [x_testSkips] at hfin
  refine lv_iload_n hx hb dX_testSkips_0 rfl (lv_at hl 0 rfl) ?_
  by_cases hk1_0 : a0 = (1 : Int32)
  · rw [if_pos hk1_0] at hfin
    refine lv_tableIn hx hb dX_testSkips_1 (off := 27) (tgt := 28) (by rw [hk1_0]; decide) (by rw [hk1_0]; decide) (by rw [hk1_0]; rfl) (by decide) ?_
    refine lv_lload_n hx hb dX_testSkips_28 rfl (lv_at hl 1 rfl) ?_
    refine lv_lconst (v := (0 : Int64)) hx hb dX_testSkips_29 (by decide) ?_
    refine W.lcmp hx hb dX_testSkips_30 ?_
    refine lv_if_ne (tgt := 38) hx hb dX_testSkips_31 (by decide) (fun hc31 => ?_) (fun hc31 => ?_)
    · rw [if_neg hc31] at hfin
      refine lv_iconst (v := (0 : Int32)) hx hb dX_testSkips_38 (by decide) ?_
      exact g_zretP X hr hlk rfl hfin dX_testSkips_39
    rw [if_pos hc31] at hfin
    refine lv_iconst (v := (1 : Int32)) hx hb dX_testSkips_34 (by decide) ?_
    refine lv_goto (tgt := 39) hx hb dX_testSkips_35 (by decide) ?_
    exact g_zretP X hr hlk rfl hfin dX_testSkips_39
  rw [if_neg hk1_0] at hfin
  by_cases hk1_1 : a0 = (2 : Int32)
  · rw [if_pos hk1_1] at hfin
    refine lv_tableIn hx hb dX_testSkips_1 (off := 39) (tgt := 40) (by rw [hk1_1]; decide) (by rw [hk1_1]; decide) (by rw [hk1_1]; rfl) (by decide) ?_
    refine lv_iconst (v := (1 : Int32)) hx hb dX_testSkips_40 (by decide) ?_
    exact g_zretP X hr hlk rfl hfin dX_testSkips_41
  rw [if_neg hk1_1] at hfin
  by_cases hk1_2 : a0 = (3 : Int32)
  · rw [if_pos hk1_2] at hfin
    refine lv_tableIn hx hb dX_testSkips_1 (off := 41) (tgt := 42) (by rw [hk1_2]; decide) (by rw [hk1_2]; decide) (by rw [hk1_2]; rfl) (by decide) ?_
    refine lv_lload_n hx hb dX_testSkips_42 rfl (lv_at hl 1 rfl) ?_
    refine lv_lconst (v := (0 : Int64)) hx hb dX_testSkips_43 (by decide) ?_
    refine W.lcmp hx hb dX_testSkips_44 ?_
    refine lv_if_eq (tgt := 52) hx hb dX_testSkips_45 (by decide) (fun hc45 => ?_) (fun hc45 => ?_)
    · rw [if_pos hc45] at hfin
      refine lv_iconst (v := (0 : Int32)) hx hb dX_testSkips_52 (by decide) ?_
      exact g_zretP X hr hlk rfl hfin dX_testSkips_53
    rw [if_neg hc45] at hfin
    refine lv_iconst (v := (1 : Int32)) hx hb dX_testSkips_48 (by decide) ?_
    refine lv_goto (tgt := 53) hx hb dX_testSkips_49 (by decide) ?_
    exact g_zretP X hr hlk rfl hfin dX_testSkips_53
  rw [if_neg hk1_2] at hfin
  have hn1_0 := i32_ne (1 : Int32) 1 (by decide) hk1_0
  have hn1_1 := i32_ne (2 : Int32) 2 (by decide) hk1_1
  have hn1_2 := i32_ne (3 : Int32) 3 (by decide) hk1_2
  refine lv_tableOut hx hb dX_testSkips_1 (tgt := 54) (by omega) (by decide) ?_
  refine lv_iconst (v := (0 : Int32)) hx hb dX_testSkips_54 (by decide) ?_
  exact g_zretP X hr hlk rfl hfin dX_testSkips_55
set_option maxHeartbeats 4000000 in
set_option maxRecDepth 100000 in
theorem cx_maskedChange (l : Launch) (a0 : Int32) (a1 : Int64) (a2 : Int64) : gPl l yX_maskedChange wX_maskedChange (rmF 0 0) [.int a0, .long a1, .long a2] (x_maskedChange a0 a1 a2) := by
  obtain ⟨z, hz⟩ : ∃ z, z = x_maskedChange a0 a1 a2 := ⟨_, rfl⟩
  rw [← hz]
  have hfin := hz.symm
  clear hz
  refine g_start (plainFor_of_name (by decide)) (Nat.le_of_ble_eq_true rfl) ?_
  intro p e s0 m args below meth c ls X hr hlk hB hl
  have hl : lv_has ls 5 [(0, .int a0), (1, .long a1), (3, .long a2)] := hl
  have hx := X.1
  have hb := X.2.1
  rw [x_maskedChange] at hfin
  refine lv_iload_n hx hb dX_maskedChange_0 rfl (lv_at hl 0 rfl) ?_
  by_cases hk1_0 : a0 = (1 : Int32)
  · rw [if_pos hk1_0] at hfin
    refine lv_tableIn hx hb dX_maskedChange_1 (off := 27) (tgt := 28) (by rw [hk1_0]; decide) (by rw [hk1_0]; decide) (by rw [hk1_0]; rfl) (by decide) ?_
    refine lv_lload_n hx hb dX_maskedChange_28 rfl (lv_at hl 1 rfl) ?_
    refine lv_lload_n hx hb dX_maskedChange_29 rfl (lv_at hl 2 rfl) ?_
    refine lv_ldc2 hx hb X.2.2.2.1 (X.2.2.2.2 _ hkX_19) dX_maskedChange_30 ?_
    refine lv_lxor hx hb dX_maskedChange_33 ?_
    refine lv_land hx hb dX_maskedChange_34 ?_
    exact g_lretP X hr hlk hfin dX_maskedChange_35
  rw [if_neg hk1_0] at hfin
  by_cases hk1_1 : a0 = (2 : Int32)
  · rw [if_pos hk1_1] at hfin
    refine lv_tableIn hx hb dX_maskedChange_1 (off := 35) (tgt := 36) (by rw [hk1_1]; decide) (by rw [hk1_1]; decide) (by rw [hk1_1]; rfl) (by decide) ?_
    refine lv_lload_n hx hb dX_maskedChange_36 rfl (lv_at hl 1 rfl) ?_
    refine lv_lload_n hx hb dX_maskedChange_37 rfl (lv_at hl 2 rfl) ?_
    refine lv_lxor hx hb dX_maskedChange_38 ?_
    exact g_lretP X hr hlk hfin dX_maskedChange_39
  rw [if_neg hk1_1] at hfin
  by_cases hk1_2 : a0 = (3 : Int32)
  · rw [if_pos hk1_2] at hfin
    refine lv_tableIn hx hb dX_maskedChange_1 (off := 39) (tgt := 40) (by rw [hk1_2]; decide) (by rw [hk1_2]; decide) (by rw [hk1_2]; rfl) (by decide) ?_
    refine lv_lload_n hx hb dX_maskedChange_40 rfl (lv_at hl 1 rfl) ?_
    refine lv_lload_n hx hb dX_maskedChange_41 rfl (lv_at hl 2 rfl) ?_
    refine lv_lor hx hb dX_maskedChange_42 ?_
    exact g_lretP X hr hlk hfin dX_maskedChange_43
  rw [if_neg hk1_2] at hfin
  have hn1_0 := i32_ne (1 : Int32) 1 (by decide) hk1_0
  have hn1_1 := i32_ne (2 : Int32) 2 (by decide) hk1_1
  have hn1_2 := i32_ne (3 : Int32) 3 (by decide) hk1_2
  refine lv_tableOut hx hb dX_maskedChange_1 (tgt := 44) (by omega) (by decide) ?_
  refine lv_lload_n hx hb dX_maskedChange_44 rfl (lv_at hl 1 rfl) ?_
  exact g_lretP X hr hlk hfin dX_maskedChange_45
set_option maxHeartbeats 4000000 in
set_option maxRecDepth 100000 in
theorem cx_test (l : Launch) (D : va_G) (cA : ClassId) (o q : Nat) (hne : va_nd [o, q] = true) (u : XS) (a0 : Int32) (a1 : Int32) (a2 : Int32) (z : XS) (hfin : x_test u a0 a1 a2 = some z) : gMv l yX_test wX_test (rmF 2 44) D [(cA, .long)] (XW cA o q) (XA o q) [.ref o, .int a0, .int a1, .int a2] u z := by
  refine g_start (plainFor_of_name (by decide)) (Nat.le_of_ble_eq_true rfl) ?_
  intro p e s0 m args below meth c ls X hr hlk hB hl
  obtain ⟨hP0, hK⟩ := hB
  have hI : gI D (XW cA o q) (XA o q) s0.heap s0.heap [] u := ⟨hP0, va_S.rf⟩
  have hl : lv_has ls 8 [(0, .ref o), (1, .int a0), (2, .int a1), (3, .int a2)] := hl
  have hx := X.1
  have hb := X.2.1
  have B_32 : ∀ (u : XS) (v4 : Int64) (H : Heap) (locs : List Loc) (ls : Array Slot), lv_has ls 8 [(0, .ref o), (1, .int a0), (2, .int a1), (3, .int a2), (4, .long v4)] → gI D (XW cA o q) (XA o q) s0.heap H locs u → x_test_32 a0 a1 a2 u v4 = some z → W p l e (rmF 2 44) s0 m args below meth c H locs 0 0 (MQ below (va_Qv (fun x => x = z) (gB D [(cA, .long)] (XW cA o q)) (XA o q)) args s0 0 0 (XA o q)) (F0 m 32 ls []) := by
    intro u v4 H locs ls hl hI hfin
    rw [x_test_32] at hfin
    refine lv_aload_n hx hb dX_test_32 rfl (lv_at hl 0 rfl) ?_
    refine xg_words X hK hI.1 dX_test_33 ?_
    refine lv_iload_n hx hb dX_test_36 rfl (lv_at hl 2 rfl) ?_
    obtain ⟨hd37, hfin⟩ := ck_if hfin
    refine xl_words X hK hI.1 hd37 dX_test_37 ?_
    refine lv_topl (fun x38 e38 => ?_)
    replace hfin := nm_at hfin e38
    refine lv_lstore (lv' := [(6, .long x38), (0, .ref o), (1, .int a0), (2, .int a1), (3, .int a2), (4, .long v4)]) hx hb dX_test_38 hl (by decide) rfl (fun ls hl => ?_)
    refine lv_aload_n hx hb dX_test_40 rfl (lv_at hl 1 rfl) ?_
    refine lv_iload_n hx hb dX_test_41 rfl (lv_at hl 2 rfl) ?_
    refine lv_iconst (v := (1 : Int32)) hx hb dX_test_42 (by decide) ?_
    refine lv_ishr hx hb dX_test_43 ?_
    refine lv_iconst (v := (3 : Int32)) hx hb dX_test_44 (by decide) ?_
    refine lv_iand hx hb dX_test_45 ?_
    refine lv_lload hx hb dX_test_46 (lv_at hl 0 rfl) ?_
    refine lv_lload hx hb dX_test_48 (lv_at hl 5 rfl) ?_
    refine lv_land hx hb dX_test_50 ?_
    refine g_callPi [.int ((a0 >>> ((1 : Int32) &&& 31)) &&& (3 : Int32)), .long (x38 &&& v4)] [.ref o] X (cx_testSkips l ((a0 >>> ((1 : Int32) &&& 31)) &&& (3 : Int32)) (x38 &&& v4)) (cwX_X_testSkips X.2.2.2.2 ⟨Nat.le_of_ble_eq_true rfl, Nat.le_of_ble_eq_true rfl⟩) rfl hl.1 rfl (Nat.le_of_ble_eq_true rfl) dX_test_51 ?_
    obtain ⟨z54, hz54, hfin⟩ := bd_ob hfin
    refine g_callMv [.int (x_testSkips ((a0 >>> ((1 : Int32) &&& 31)) &&& (3 : Int32)) (x38 &&& v4))] [] X hK x_rcv hI (cx_skipIf l D cA o q hne u (x_testSkips ((a0 >>> ((1 : Int32) &&& 31)) &&& (3 : Int32)) (x38 &&& v4)) z54 hz54) (cwX_X_skipIf X.2.2.2.2 ⟨Nat.le_of_ble_eq_true rfl, Nat.le_of_ble_eq_true rfl⟩) rfl hl.1 rfl (Nat.le_of_ble_eq_true rfl) dX_test_54 (fun H locs hI => ?_)
    refine lv_aload_n hx hb dX_test_57 rfl (lv_at hl 1 rfl) ?_
    refine lv_iload_n hx hb dX_test_58 rfl (lv_at hl 3 rfl) ?_
    refine lv_iload_n hx hb dX_test_59 rfl (lv_at hl 2 rfl) ?_
    refine lv_iconst (v := (4 : Int32)) hx hb dX_test_60 (by decide) ?_
    refine lv_ishr hx hb dX_test_61 ?_
    refine lv_iconst (v := (3 : Int32)) hx hb dX_test_62 (by decide) ?_
    refine lv_iand hx hb dX_test_63 ?_
    refine lv_lload hx hb dX_test_64 (lv_at hl 0 rfl) ?_
    refine lv_lload hx hb dX_test_66 (lv_at hl 5 rfl) ?_
    refine g_callPl [.int ((a0 >>> ((4 : Int32) &&& 31)) &&& (3 : Int32)), .long x38, .long v4] [.int a1, .ref o] X (cx_maskedChange l ((a0 >>> ((4 : Int32) &&& 31)) &&& (3 : Int32)) x38 v4) (cwX_X_maskedChange X.2.2.2.2 ⟨Nat.le_of_ble_eq_true rfl, Nat.le_of_ble_eq_true rfl⟩) rfl hl.1 rfl (Nat.le_of_ble_eq_true rfl) dX_test_68 ?_
    obtain ⟨z71, hz71, hfin⟩ := bd_ob hfin
    refine g_callMv [.int a1, .long (x_maskedChange ((a0 >>> ((4 : Int32) &&& 31)) &&& (3 : Int32)) x38 v4)] [] X hK x_rcv hI (cx_setAccumulator l D cA o q hne z54 a1 (x_maskedChange ((a0 >>> ((4 : Int32) &&& 31)) &&& (3 : Int32)) x38 v4) z71 hz71) (cwX_X_setAccumulator X.2.2.2.2 ⟨Nat.le_of_ble_eq_true rfl, Nat.le_of_ble_eq_true rfl⟩) rfl hl.1 rfl (Nat.le_of_ble_eq_true rfl) dX_test_71 (fun H locs hI => ?_)
    exact g_vret X hr hlk hK hI hfin dX_test_74
  have B_17 : ∀ (u : XS) (t0 : Int64) (H : Heap) (locs : List Loc) (ls : Array Slot), lv_has ls 8 [(0, .ref o), (1, .int a0), (2, .int a1), (3, .int a2)] → gI D (XW cA o q) (XA o q) s0.heap H locs u → x_test_17 a0 a1 a2 u t0 = some z → W p l e (rmF 2 44) s0 m args below meth c H locs 0 0 (MQ below (va_Qv (fun x => x = z) (gB D [(cA, .long)] (XW cA o q)) (XA o q)) args s0 0 0 (XA o q)) (F0 m 17 ls [.long t0]) := by
    intro u t0 H locs ls hl hI hfin
    rw [x_test_17] at hfin
    refine lv_lstore (lv' := [(4, .long t0), (0, .ref o), (1, .int a0), (2, .int a1), (3, .int a2)]) hx hb dX_test_17 hl (by decide) rfl (fun ls hl => ?_)
    refine lv_iload_n hx hb dX_test_19 rfl (lv_at hl 2 rfl) ?_
    refine lv_iconst (v := (1 : Int32)) hx hb dX_test_20 (by decide) ?_
    refine lv_iand hx hb dX_test_21 ?_
    refine lv_if_eq (tgt := 32) hx hb dX_test_22 (by decide) (fun hc22 => ?_) (fun hc22 => ?_)
    · rw [if_pos hc22] at hfin
      exact B_32 u t0 H locs ls (lv_sub hl [1, 2, 3, 4, 0] rfl) hI hfin
    rw [if_neg hc22] at hfin
    refine lv_lload hx hb dX_test_25 (lv_at hl 0 rfl) ?_
    refine g_callPl [.long t0] [] X (cx_swapped l t0) (cwX_X_swapped X.2.2.2.2 ⟨Nat.le_of_ble_eq_true rfl, Nat.le_of_ble_eq_true rfl⟩) rfl hl.1 rfl (Nat.le_of_ble_eq_true rfl) dX_test_27 ?_
    refine lv_topl (fun x30 e30 => ?_)
    replace hfin := nm_at hfin e30
    refine lv_lstore (lv' := [(4, .long x30), (0, .ref o), (1, .int a0), (2, .int a1), (3, .int a2)]) hx hb dX_test_30 hl (by decide) rfl (fun ls hl => ?_)
    exact B_32 u x30 H locs ls (lv_sub hl [1, 2, 3, 4, 0] rfl) hI hfin
  rw [x_test] at hfin
  refine lv_iload_n hx hb dX_test_0 rfl (lv_at hl 1 rfl) ?_
  refine lv_bipush (v := (8 : Int32)) hx hb dX_test_1 (by decide) ?_
  refine lv_iand hx hb dX_test_3 ?_
  refine lv_if_eq (tgt := 15) hx hb dX_test_4 (by decide) (fun hc4 => ?_) (fun hc4 => ?_)
  · rw [if_pos hc4] at hfin
    refine lv_iload_n hx hb dX_test_15 rfl (lv_at hl 3 rfl) ?_
    refine lv_i2l hx hb dX_test_16 rfl ?_
    exact B_17 u (a2.toInt64) s0.heap [] ls (lv_sub hl [0, 1, 2, 3] rfl) hI hfin
  rw [if_neg hc4] at hfin
  refine lv_aload_n hx hb dX_test_7 rfl (lv_at hl 0 rfl) ?_
  refine lv_iload_n hx hb dX_test_8 rfl (lv_at hl 3 rfl) ?_
  obtain ⟨z9, hz9, hfin⟩ := bd_ob hfin
  refine g_callMl [.int a2] [] X hK x_rcv hI (cx_read l D cA o q hne u a2 z9 hz9) (cwX_X_read X.2.2.2.2 ⟨Nat.le_of_ble_eq_true rfl, Nat.le_of_ble_eq_true rfl⟩) rfl hl.1 rfl (Nat.le_of_ble_eq_true rfl) dX_test_9 (fun H locs hI => ?_)
  refine lv_goto (tgt := 17) hx hb dX_test_12 (by decide) ?_
  exact B_17 z9.2 z9.1 H locs ls (lv_sub hl [0, 1, 2, 3] rfl) hI hfin
set_option maxHeartbeats 4000000 in
set_option maxRecDepth 100000 in
theorem cx_carryOut (l : Launch) (D : va_G) (cA : ClassId) (o q : Nat) (hne : va_nd [o, q] = true) (u : XS) (a0 : Int32) (a1 : Int32) (a2 : Int32) (z : XS) (hfin : x_carryOut u a0 a1 a2 = some z) : gMv l yX_carryOut wX_carryOut (rmF 5 122) D [(cA, .long)] (XW cA o q) (XA o q) [.ref o, .int a0, .int a1, .int a2] u z := by
  refine g_start (plainFor_of_name (by decide)) (Nat.le_of_ble_eq_true rfl) ?_
  intro p e s0 m args below meth c ls X hr hlk hB hl
  obtain ⟨hP0, hK⟩ := hB
  have hI : gI D (XW cA o q) (XA o q) s0.heap s0.heap [] u := ⟨hP0, va_S.rf⟩
  have hl : lv_has ls 4 [(0, .ref o), (1, .int a0), (2, .int a1), (3, .int a2)] := hl
  have hx := X.1
  have hb := X.2.1
  rw [x_carryOut] at hfin
  refine lv_iload_n hx hb dX_carryOut_0 rfl (lv_at hl 1 rfl) ?_
  refine lv_iconst (v := (3 : Int32)) hx hb dX_carryOut_1 (by decide) ?_
  refine lv_ishr hx hb dX_carryOut_2 ?_
  by_cases hk3_0 : (a0 >>> ((3 : Int32) &&& 31)) = (11 : Int32)
  · rw [if_pos hk3_0] at hfin
    refine lv_tableIn hx hb dX_carryOut_3 (off := 65) (tgt := 68) (by rw [hk3_0]; decide) (by rw [hk3_0]; decide) (by rw [hk3_0]; rfl) (by decide) ?_
    refine lv_aload_n hx hb dX_carryOut_68 rfl (lv_at hl 0 rfl) ?_
    refine lv_iload_n hx hb dX_carryOut_69 rfl (lv_at hl 1 rfl) ?_
    refine lv_iload_n hx hb dX_carryOut_70 rfl (lv_at hl 2 rfl) ?_
    refine lv_iload_n hx hb dX_carryOut_71 rfl (lv_at hl 3 rfl) ?_
    obtain ⟨z72, hz72, hfin⟩ := bd_ob hfin
    refine g_callMv [.int a0, .int a1, .int a2] [] X hK x_rcv hI (cx_bytes l D cA o q hne u a0 a1 a2 z72 hz72) (cwX_X_bytes X.2.2.2.2 ⟨Nat.le_of_ble_eq_true rfl, Nat.le_of_ble_eq_true rfl⟩) rfl hl.1 rfl (Nat.le_of_ble_eq_true rfl) dX_carryOut_72 (fun H locs hI => ?_)
    exact g_vret X hr hlk hK hI hfin dX_carryOut_75
  rw [if_neg hk3_0] at hfin
  by_cases hk3_1 : (a0 >>> ((3 : Int32) &&& 31)) = (12 : Int32)
  · rw [if_pos hk3_1] at hfin
    refine lv_tableIn hx hb dX_carryOut_3 (off := 129) (tgt := 132) (by rw [hk3_1]; decide) (by rw [hk3_1]; decide) (by rw [hk3_1]; rfl) (by decide) ?_
    refine lv_iload_n hx hb dX_carryOut_132 rfl (lv_at hl 1 rfl) ?_
    refine lv_bipush (v := (6 : Int32)) hx hb dX_carryOut_133 (by decide) ?_
    refine lv_ishr hx hb dX_carryOut_135 ?_
    by_cases hk136_0 : (a0 >>> ((6 : Int32) &&& 31)) = (3 : Int32)
    · rw [if_pos hk136_0] at hfin
      refine lv_tableIn hx hb dX_carryOut_136 (off := 32) (tgt := 168) (by rw [hk136_0]; decide) (by rw [hk136_0]; decide) (by rw [hk136_0]; rfl) (by decide) ?_
      refine lv_aload_n hx hb dX_carryOut_168 rfl (lv_at hl 0 rfl) ?_
      refine lv_iload_n hx hb dX_carryOut_169 rfl (lv_at hl 1 rfl) ?_
      refine lv_iload_n hx hb dX_carryOut_170 rfl (lv_at hl 2 rfl) ?_
      refine lv_iload_n hx hb dX_carryOut_171 rfl (lv_at hl 3 rfl) ?_
      obtain ⟨z172, hz172, hfin⟩ := bd_ob hfin
      refine g_callMv [.int a0, .int a1, .int a2] [] X hK x_rcv hI (cx_compare l D cA o q hne u a0 a1 a2 z172 hz172) (cwX_X_compare X.2.2.2.2 ⟨Nat.le_of_ble_eq_true rfl, Nat.le_of_ble_eq_true rfl⟩) rfl hl.1 rfl (Nat.le_of_ble_eq_true rfl) dX_carryOut_172 (fun H locs hI => ?_)
      exact g_vret X hr hlk hK hI hfin dX_carryOut_175
    rw [if_neg hk136_0] at hfin
    by_cases hk136_1 : (a0 >>> ((6 : Int32) &&& 31)) = (4 : Int32)
    · rw [if_pos hk136_1] at hfin
      refine lv_tableIn hx hb dX_carryOut_136 (off := 40) (tgt := 176) (by rw [hk136_1]; decide) (by rw [hk136_1]; decide) (by rw [hk136_1]; rfl) (by decide) ?_
      refine lv_aload_n hx hb dX_carryOut_176 rfl (lv_at hl 0 rfl) ?_
      refine lv_iload_n hx hb dX_carryOut_177 rfl (lv_at hl 1 rfl) ?_
      refine lv_iload_n hx hb dX_carryOut_178 rfl (lv_at hl 2 rfl) ?_
      refine lv_iload_n hx hb dX_carryOut_179 rfl (lv_at hl 3 rfl) ?_
      obtain ⟨z180, hz180, hfin⟩ := bd_ob hfin
      refine g_callMv [.int a0, .int a1, .int a2] [] X hK x_rcv hI (cx_logic l D cA o q hne u a0 a1 a2 z180 hz180) (cwX_X_logic X.2.2.2.2 ⟨Nat.le_of_ble_eq_true rfl, Nat.le_of_ble_eq_true rfl⟩) rfl hl.1 rfl (Nat.le_of_ble_eq_true rfl) dX_carryOut_180 (fun H locs hI => ?_)
      exact g_vret X hr hlk hK hI hfin dX_carryOut_183
    rw [if_neg hk136_1] at hfin
    by_cases hk136_2 : (a0 >>> ((6 : Int32) &&& 31)) = (5 : Int32)
    · rw [if_pos hk136_2] at hfin
      refine lv_tableIn hx hb dX_carryOut_136 (off := 48) (tgt := 184) (by rw [hk136_2]; decide) (by rw [hk136_2]; decide) (by rw [hk136_2]; rfl) (by decide) ?_
      refine lv_aload_n hx hb dX_carryOut_184 rfl (lv_at hl 0 rfl) ?_
      refine lv_iload_n hx hb dX_carryOut_185 rfl (lv_at hl 1 rfl) ?_
      refine lv_iload_n hx hb dX_carryOut_186 rfl (lv_at hl 2 rfl) ?_
      refine lv_iload_n hx hb dX_carryOut_187 rfl (lv_at hl 3 rfl) ?_
      obtain ⟨z188, hz188, hfin⟩ := bd_ob hfin
      refine g_callMv [.int a0, .int a1, .int a2] [] X hK x_rcv hI (cx_halves l D cA o q hne u a0 a1 a2 z188 hz188) (cwX_X_halves X.2.2.2.2 ⟨Nat.le_of_ble_eq_true rfl, Nat.le_of_ble_eq_true rfl⟩) rfl hl.1 rfl (Nat.le_of_ble_eq_true rfl) dX_carryOut_188 (fun H locs hI => ?_)
      exact g_vret X hr hlk hK hI hfin dX_carryOut_191
    rw [if_neg hk136_2] at hfin
    by_cases hk136_3 : (a0 >>> ((6 : Int32) &&& 31)) = (6 : Int32)
    · rw [if_pos hk136_3] at hfin
      refine lv_tableIn hx hb dX_carryOut_136 (off := 56) (tgt := 192) (by rw [hk136_3]; decide) (by rw [hk136_3]; decide) (by rw [hk136_3]; rfl) (by decide) ?_
      refine lv_aload_n hx hb dX_carryOut_192 rfl (lv_at hl 0 rfl) ?_
      refine lv_iload_n hx hb dX_carryOut_193 rfl (lv_at hl 1 rfl) ?_
      refine lv_iload_n hx hb dX_carryOut_194 rfl (lv_at hl 2 rfl) ?_
      refine lv_iload_n hx hb dX_carryOut_195 rfl (lv_at hl 3 rfl) ?_
      obtain ⟨z196, hz196, hfin⟩ := bd_ob hfin
      refine g_callMv [.int a0, .int a1, .int a2] [] X hK x_rcv hI (cx_test l D cA o q hne u a0 a1 a2 z196 hz196) (cwX_X_test X.2.2.2.2 ⟨Nat.le_of_ble_eq_true rfl, Nat.le_of_ble_eq_true rfl⟩) rfl hl.1 rfl (Nat.le_of_ble_eq_true rfl) dX_carryOut_196 (fun H locs hI => ?_)
      exact g_vret X hr hlk hK hI hfin dX_carryOut_199
    rw [if_neg hk136_3] at hfin
    have hn136_0 := i32_ne (3 : Int32) 3 (by decide) hk136_0
    have hn136_1 := i32_ne (4 : Int32) 4 (by decide) hk136_1
    have hn136_2 := i32_ne (5 : Int32) 5 (by decide) hk136_2
    have hn136_3 := i32_ne (6 : Int32) 6 (by decide) hk136_3
    refine lv_tableOut hx hb dX_carryOut_136 (tgt := 200) (by omega) (by decide) ?_
    refine lv_aload_n hx hb dX_carryOut_200 rfl (lv_at hl 0 rfl) ?_
    refine lv_iconst (v := (2 : Int32)) hx hb dX_carryOut_201 (by decide) ?_
    obtain ⟨z202, hz202, hfin⟩ := bd_ob hfin
    refine g_callMv [.int (2 : Int32)] [] X hK x_rcv hI (cx_raise l D cA o q hne u (2 : Int32) z202 hz202) (cwX_X_raise X.2.2.2.2 ⟨Nat.le_of_ble_eq_true rfl, Nat.le_of_ble_eq_true rfl⟩) rfl hl.1 rfl (Nat.le_of_ble_eq_true rfl) dX_carryOut_202 (fun H locs hI => ?_)
    exact g_vret X hr hlk hK hI hfin dX_carryOut_205
  rw [if_neg hk3_1] at hfin
  by_cases hk3_2 : (a0 >>> ((3 : Int32) &&& 31)) = (13 : Int32)
  · rw [if_pos hk3_2] at hfin
    refine lv_tableIn hx hb dX_carryOut_3 (off := 129) (tgt := 132) (by rw [hk3_2]; decide) (by rw [hk3_2]; decide) (by rw [hk3_2]; rfl) (by decide) ?_
    refine lv_iload_n hx hb dX_carryOut_132 rfl (lv_at hl 1 rfl) ?_
    refine lv_bipush (v := (6 : Int32)) hx hb dX_carryOut_133 (by decide) ?_
    refine lv_ishr hx hb dX_carryOut_135 ?_
    by_cases hk136_0 : (a0 >>> ((6 : Int32) &&& 31)) = (3 : Int32)
    · rw [if_pos hk136_0] at hfin
      refine lv_tableIn hx hb dX_carryOut_136 (off := 32) (tgt := 168) (by rw [hk136_0]; decide) (by rw [hk136_0]; decide) (by rw [hk136_0]; rfl) (by decide) ?_
      refine lv_aload_n hx hb dX_carryOut_168 rfl (lv_at hl 0 rfl) ?_
      refine lv_iload_n hx hb dX_carryOut_169 rfl (lv_at hl 1 rfl) ?_
      refine lv_iload_n hx hb dX_carryOut_170 rfl (lv_at hl 2 rfl) ?_
      refine lv_iload_n hx hb dX_carryOut_171 rfl (lv_at hl 3 rfl) ?_
      obtain ⟨z172, hz172, hfin⟩ := bd_ob hfin
      refine g_callMv [.int a0, .int a1, .int a2] [] X hK x_rcv hI (cx_compare l D cA o q hne u a0 a1 a2 z172 hz172) (cwX_X_compare X.2.2.2.2 ⟨Nat.le_of_ble_eq_true rfl, Nat.le_of_ble_eq_true rfl⟩) rfl hl.1 rfl (Nat.le_of_ble_eq_true rfl) dX_carryOut_172 (fun H locs hI => ?_)
      exact g_vret X hr hlk hK hI hfin dX_carryOut_175
    rw [if_neg hk136_0] at hfin
    by_cases hk136_1 : (a0 >>> ((6 : Int32) &&& 31)) = (4 : Int32)
    · rw [if_pos hk136_1] at hfin
      refine lv_tableIn hx hb dX_carryOut_136 (off := 40) (tgt := 176) (by rw [hk136_1]; decide) (by rw [hk136_1]; decide) (by rw [hk136_1]; rfl) (by decide) ?_
      refine lv_aload_n hx hb dX_carryOut_176 rfl (lv_at hl 0 rfl) ?_
      refine lv_iload_n hx hb dX_carryOut_177 rfl (lv_at hl 1 rfl) ?_
      refine lv_iload_n hx hb dX_carryOut_178 rfl (lv_at hl 2 rfl) ?_
      refine lv_iload_n hx hb dX_carryOut_179 rfl (lv_at hl 3 rfl) ?_
      obtain ⟨z180, hz180, hfin⟩ := bd_ob hfin
      refine g_callMv [.int a0, .int a1, .int a2] [] X hK x_rcv hI (cx_logic l D cA o q hne u a0 a1 a2 z180 hz180) (cwX_X_logic X.2.2.2.2 ⟨Nat.le_of_ble_eq_true rfl, Nat.le_of_ble_eq_true rfl⟩) rfl hl.1 rfl (Nat.le_of_ble_eq_true rfl) dX_carryOut_180 (fun H locs hI => ?_)
      exact g_vret X hr hlk hK hI hfin dX_carryOut_183
    rw [if_neg hk136_1] at hfin
    by_cases hk136_2 : (a0 >>> ((6 : Int32) &&& 31)) = (5 : Int32)
    · rw [if_pos hk136_2] at hfin
      refine lv_tableIn hx hb dX_carryOut_136 (off := 48) (tgt := 184) (by rw [hk136_2]; decide) (by rw [hk136_2]; decide) (by rw [hk136_2]; rfl) (by decide) ?_
      refine lv_aload_n hx hb dX_carryOut_184 rfl (lv_at hl 0 rfl) ?_
      refine lv_iload_n hx hb dX_carryOut_185 rfl (lv_at hl 1 rfl) ?_
      refine lv_iload_n hx hb dX_carryOut_186 rfl (lv_at hl 2 rfl) ?_
      refine lv_iload_n hx hb dX_carryOut_187 rfl (lv_at hl 3 rfl) ?_
      obtain ⟨z188, hz188, hfin⟩ := bd_ob hfin
      refine g_callMv [.int a0, .int a1, .int a2] [] X hK x_rcv hI (cx_halves l D cA o q hne u a0 a1 a2 z188 hz188) (cwX_X_halves X.2.2.2.2 ⟨Nat.le_of_ble_eq_true rfl, Nat.le_of_ble_eq_true rfl⟩) rfl hl.1 rfl (Nat.le_of_ble_eq_true rfl) dX_carryOut_188 (fun H locs hI => ?_)
      exact g_vret X hr hlk hK hI hfin dX_carryOut_191
    rw [if_neg hk136_2] at hfin
    by_cases hk136_3 : (a0 >>> ((6 : Int32) &&& 31)) = (6 : Int32)
    · rw [if_pos hk136_3] at hfin
      refine lv_tableIn hx hb dX_carryOut_136 (off := 56) (tgt := 192) (by rw [hk136_3]; decide) (by rw [hk136_3]; decide) (by rw [hk136_3]; rfl) (by decide) ?_
      refine lv_aload_n hx hb dX_carryOut_192 rfl (lv_at hl 0 rfl) ?_
      refine lv_iload_n hx hb dX_carryOut_193 rfl (lv_at hl 1 rfl) ?_
      refine lv_iload_n hx hb dX_carryOut_194 rfl (lv_at hl 2 rfl) ?_
      refine lv_iload_n hx hb dX_carryOut_195 rfl (lv_at hl 3 rfl) ?_
      obtain ⟨z196, hz196, hfin⟩ := bd_ob hfin
      refine g_callMv [.int a0, .int a1, .int a2] [] X hK x_rcv hI (cx_test l D cA o q hne u a0 a1 a2 z196 hz196) (cwX_X_test X.2.2.2.2 ⟨Nat.le_of_ble_eq_true rfl, Nat.le_of_ble_eq_true rfl⟩) rfl hl.1 rfl (Nat.le_of_ble_eq_true rfl) dX_carryOut_196 (fun H locs hI => ?_)
      exact g_vret X hr hlk hK hI hfin dX_carryOut_199
    rw [if_neg hk136_3] at hfin
    have hn136_0 := i32_ne (3 : Int32) 3 (by decide) hk136_0
    have hn136_1 := i32_ne (4 : Int32) 4 (by decide) hk136_1
    have hn136_2 := i32_ne (5 : Int32) 5 (by decide) hk136_2
    have hn136_3 := i32_ne (6 : Int32) 6 (by decide) hk136_3
    refine lv_tableOut hx hb dX_carryOut_136 (tgt := 200) (by omega) (by decide) ?_
    refine lv_aload_n hx hb dX_carryOut_200 rfl (lv_at hl 0 rfl) ?_
    refine lv_iconst (v := (2 : Int32)) hx hb dX_carryOut_201 (by decide) ?_
    obtain ⟨z202, hz202, hfin⟩ := bd_ob hfin
    refine g_callMv [.int (2 : Int32)] [] X hK x_rcv hI (cx_raise l D cA o q hne u (2 : Int32) z202 hz202) (cwX_X_raise X.2.2.2.2 ⟨Nat.le_of_ble_eq_true rfl, Nat.le_of_ble_eq_true rfl⟩) rfl hl.1 rfl (Nat.le_of_ble_eq_true rfl) dX_carryOut_202 (fun H locs hI => ?_)
    exact g_vret X hr hlk hK hI hfin dX_carryOut_205
  rw [if_neg hk3_2] at hfin
  by_cases hk3_3 : (a0 >>> ((3 : Int32) &&& 31)) = (14 : Int32)
  · rw [if_pos hk3_3] at hfin
    refine lv_tableIn hx hb dX_carryOut_3 (off := 129) (tgt := 132) (by rw [hk3_3]; decide) (by rw [hk3_3]; decide) (by rw [hk3_3]; rfl) (by decide) ?_
    refine lv_iload_n hx hb dX_carryOut_132 rfl (lv_at hl 1 rfl) ?_
    refine lv_bipush (v := (6 : Int32)) hx hb dX_carryOut_133 (by decide) ?_
    refine lv_ishr hx hb dX_carryOut_135 ?_
    by_cases hk136_0 : (a0 >>> ((6 : Int32) &&& 31)) = (3 : Int32)
    · rw [if_pos hk136_0] at hfin
      refine lv_tableIn hx hb dX_carryOut_136 (off := 32) (tgt := 168) (by rw [hk136_0]; decide) (by rw [hk136_0]; decide) (by rw [hk136_0]; rfl) (by decide) ?_
      refine lv_aload_n hx hb dX_carryOut_168 rfl (lv_at hl 0 rfl) ?_
      refine lv_iload_n hx hb dX_carryOut_169 rfl (lv_at hl 1 rfl) ?_
      refine lv_iload_n hx hb dX_carryOut_170 rfl (lv_at hl 2 rfl) ?_
      refine lv_iload_n hx hb dX_carryOut_171 rfl (lv_at hl 3 rfl) ?_
      obtain ⟨z172, hz172, hfin⟩ := bd_ob hfin
      refine g_callMv [.int a0, .int a1, .int a2] [] X hK x_rcv hI (cx_compare l D cA o q hne u a0 a1 a2 z172 hz172) (cwX_X_compare X.2.2.2.2 ⟨Nat.le_of_ble_eq_true rfl, Nat.le_of_ble_eq_true rfl⟩) rfl hl.1 rfl (Nat.le_of_ble_eq_true rfl) dX_carryOut_172 (fun H locs hI => ?_)
      exact g_vret X hr hlk hK hI hfin dX_carryOut_175
    rw [if_neg hk136_0] at hfin
    by_cases hk136_1 : (a0 >>> ((6 : Int32) &&& 31)) = (4 : Int32)
    · rw [if_pos hk136_1] at hfin
      refine lv_tableIn hx hb dX_carryOut_136 (off := 40) (tgt := 176) (by rw [hk136_1]; decide) (by rw [hk136_1]; decide) (by rw [hk136_1]; rfl) (by decide) ?_
      refine lv_aload_n hx hb dX_carryOut_176 rfl (lv_at hl 0 rfl) ?_
      refine lv_iload_n hx hb dX_carryOut_177 rfl (lv_at hl 1 rfl) ?_
      refine lv_iload_n hx hb dX_carryOut_178 rfl (lv_at hl 2 rfl) ?_
      refine lv_iload_n hx hb dX_carryOut_179 rfl (lv_at hl 3 rfl) ?_
      obtain ⟨z180, hz180, hfin⟩ := bd_ob hfin
      refine g_callMv [.int a0, .int a1, .int a2] [] X hK x_rcv hI (cx_logic l D cA o q hne u a0 a1 a2 z180 hz180) (cwX_X_logic X.2.2.2.2 ⟨Nat.le_of_ble_eq_true rfl, Nat.le_of_ble_eq_true rfl⟩) rfl hl.1 rfl (Nat.le_of_ble_eq_true rfl) dX_carryOut_180 (fun H locs hI => ?_)
      exact g_vret X hr hlk hK hI hfin dX_carryOut_183
    rw [if_neg hk136_1] at hfin
    by_cases hk136_2 : (a0 >>> ((6 : Int32) &&& 31)) = (5 : Int32)
    · rw [if_pos hk136_2] at hfin
      refine lv_tableIn hx hb dX_carryOut_136 (off := 48) (tgt := 184) (by rw [hk136_2]; decide) (by rw [hk136_2]; decide) (by rw [hk136_2]; rfl) (by decide) ?_
      refine lv_aload_n hx hb dX_carryOut_184 rfl (lv_at hl 0 rfl) ?_
      refine lv_iload_n hx hb dX_carryOut_185 rfl (lv_at hl 1 rfl) ?_
      refine lv_iload_n hx hb dX_carryOut_186 rfl (lv_at hl 2 rfl) ?_
      refine lv_iload_n hx hb dX_carryOut_187 rfl (lv_at hl 3 rfl) ?_
      obtain ⟨z188, hz188, hfin⟩ := bd_ob hfin
      refine g_callMv [.int a0, .int a1, .int a2] [] X hK x_rcv hI (cx_halves l D cA o q hne u a0 a1 a2 z188 hz188) (cwX_X_halves X.2.2.2.2 ⟨Nat.le_of_ble_eq_true rfl, Nat.le_of_ble_eq_true rfl⟩) rfl hl.1 rfl (Nat.le_of_ble_eq_true rfl) dX_carryOut_188 (fun H locs hI => ?_)
      exact g_vret X hr hlk hK hI hfin dX_carryOut_191
    rw [if_neg hk136_2] at hfin
    by_cases hk136_3 : (a0 >>> ((6 : Int32) &&& 31)) = (6 : Int32)
    · rw [if_pos hk136_3] at hfin
      refine lv_tableIn hx hb dX_carryOut_136 (off := 56) (tgt := 192) (by rw [hk136_3]; decide) (by rw [hk136_3]; decide) (by rw [hk136_3]; rfl) (by decide) ?_
      refine lv_aload_n hx hb dX_carryOut_192 rfl (lv_at hl 0 rfl) ?_
      refine lv_iload_n hx hb dX_carryOut_193 rfl (lv_at hl 1 rfl) ?_
      refine lv_iload_n hx hb dX_carryOut_194 rfl (lv_at hl 2 rfl) ?_
      refine lv_iload_n hx hb dX_carryOut_195 rfl (lv_at hl 3 rfl) ?_
      obtain ⟨z196, hz196, hfin⟩ := bd_ob hfin
      refine g_callMv [.int a0, .int a1, .int a2] [] X hK x_rcv hI (cx_test l D cA o q hne u a0 a1 a2 z196 hz196) (cwX_X_test X.2.2.2.2 ⟨Nat.le_of_ble_eq_true rfl, Nat.le_of_ble_eq_true rfl⟩) rfl hl.1 rfl (Nat.le_of_ble_eq_true rfl) dX_carryOut_196 (fun H locs hI => ?_)
      exact g_vret X hr hlk hK hI hfin dX_carryOut_199
    rw [if_neg hk136_3] at hfin
    have hn136_0 := i32_ne (3 : Int32) 3 (by decide) hk136_0
    have hn136_1 := i32_ne (4 : Int32) 4 (by decide) hk136_1
    have hn136_2 := i32_ne (5 : Int32) 5 (by decide) hk136_2
    have hn136_3 := i32_ne (6 : Int32) 6 (by decide) hk136_3
    refine lv_tableOut hx hb dX_carryOut_136 (tgt := 200) (by omega) (by decide) ?_
    refine lv_aload_n hx hb dX_carryOut_200 rfl (lv_at hl 0 rfl) ?_
    refine lv_iconst (v := (2 : Int32)) hx hb dX_carryOut_201 (by decide) ?_
    obtain ⟨z202, hz202, hfin⟩ := bd_ob hfin
    refine g_callMv [.int (2 : Int32)] [] X hK x_rcv hI (cx_raise l D cA o q hne u (2 : Int32) z202 hz202) (cwX_X_raise X.2.2.2.2 ⟨Nat.le_of_ble_eq_true rfl, Nat.le_of_ble_eq_true rfl⟩) rfl hl.1 rfl (Nat.le_of_ble_eq_true rfl) dX_carryOut_202 (fun H locs hI => ?_)
    exact g_vret X hr hlk hK hI hfin dX_carryOut_205
  rw [if_neg hk3_3] at hfin
  by_cases hk3_4 : (a0 >>> ((3 : Int32) &&& 31)) = (15 : Int32)
  · rw [if_pos hk3_4] at hfin
    refine lv_tableIn hx hb dX_carryOut_3 (off := 129) (tgt := 132) (by rw [hk3_4]; decide) (by rw [hk3_4]; decide) (by rw [hk3_4]; rfl) (by decide) ?_
    refine lv_iload_n hx hb dX_carryOut_132 rfl (lv_at hl 1 rfl) ?_
    refine lv_bipush (v := (6 : Int32)) hx hb dX_carryOut_133 (by decide) ?_
    refine lv_ishr hx hb dX_carryOut_135 ?_
    by_cases hk136_0 : (a0 >>> ((6 : Int32) &&& 31)) = (3 : Int32)
    · rw [if_pos hk136_0] at hfin
      refine lv_tableIn hx hb dX_carryOut_136 (off := 32) (tgt := 168) (by rw [hk136_0]; decide) (by rw [hk136_0]; decide) (by rw [hk136_0]; rfl) (by decide) ?_
      refine lv_aload_n hx hb dX_carryOut_168 rfl (lv_at hl 0 rfl) ?_
      refine lv_iload_n hx hb dX_carryOut_169 rfl (lv_at hl 1 rfl) ?_
      refine lv_iload_n hx hb dX_carryOut_170 rfl (lv_at hl 2 rfl) ?_
      refine lv_iload_n hx hb dX_carryOut_171 rfl (lv_at hl 3 rfl) ?_
      obtain ⟨z172, hz172, hfin⟩ := bd_ob hfin
      refine g_callMv [.int a0, .int a1, .int a2] [] X hK x_rcv hI (cx_compare l D cA o q hne u a0 a1 a2 z172 hz172) (cwX_X_compare X.2.2.2.2 ⟨Nat.le_of_ble_eq_true rfl, Nat.le_of_ble_eq_true rfl⟩) rfl hl.1 rfl (Nat.le_of_ble_eq_true rfl) dX_carryOut_172 (fun H locs hI => ?_)
      exact g_vret X hr hlk hK hI hfin dX_carryOut_175
    rw [if_neg hk136_0] at hfin
    by_cases hk136_1 : (a0 >>> ((6 : Int32) &&& 31)) = (4 : Int32)
    · rw [if_pos hk136_1] at hfin
      refine lv_tableIn hx hb dX_carryOut_136 (off := 40) (tgt := 176) (by rw [hk136_1]; decide) (by rw [hk136_1]; decide) (by rw [hk136_1]; rfl) (by decide) ?_
      refine lv_aload_n hx hb dX_carryOut_176 rfl (lv_at hl 0 rfl) ?_
      refine lv_iload_n hx hb dX_carryOut_177 rfl (lv_at hl 1 rfl) ?_
      refine lv_iload_n hx hb dX_carryOut_178 rfl (lv_at hl 2 rfl) ?_
      refine lv_iload_n hx hb dX_carryOut_179 rfl (lv_at hl 3 rfl) ?_
      obtain ⟨z180, hz180, hfin⟩ := bd_ob hfin
      refine g_callMv [.int a0, .int a1, .int a2] [] X hK x_rcv hI (cx_logic l D cA o q hne u a0 a1 a2 z180 hz180) (cwX_X_logic X.2.2.2.2 ⟨Nat.le_of_ble_eq_true rfl, Nat.le_of_ble_eq_true rfl⟩) rfl hl.1 rfl (Nat.le_of_ble_eq_true rfl) dX_carryOut_180 (fun H locs hI => ?_)
      exact g_vret X hr hlk hK hI hfin dX_carryOut_183
    rw [if_neg hk136_1] at hfin
    by_cases hk136_2 : (a0 >>> ((6 : Int32) &&& 31)) = (5 : Int32)
    · rw [if_pos hk136_2] at hfin
      refine lv_tableIn hx hb dX_carryOut_136 (off := 48) (tgt := 184) (by rw [hk136_2]; decide) (by rw [hk136_2]; decide) (by rw [hk136_2]; rfl) (by decide) ?_
      refine lv_aload_n hx hb dX_carryOut_184 rfl (lv_at hl 0 rfl) ?_
      refine lv_iload_n hx hb dX_carryOut_185 rfl (lv_at hl 1 rfl) ?_
      refine lv_iload_n hx hb dX_carryOut_186 rfl (lv_at hl 2 rfl) ?_
      refine lv_iload_n hx hb dX_carryOut_187 rfl (lv_at hl 3 rfl) ?_
      obtain ⟨z188, hz188, hfin⟩ := bd_ob hfin
      refine g_callMv [.int a0, .int a1, .int a2] [] X hK x_rcv hI (cx_halves l D cA o q hne u a0 a1 a2 z188 hz188) (cwX_X_halves X.2.2.2.2 ⟨Nat.le_of_ble_eq_true rfl, Nat.le_of_ble_eq_true rfl⟩) rfl hl.1 rfl (Nat.le_of_ble_eq_true rfl) dX_carryOut_188 (fun H locs hI => ?_)
      exact g_vret X hr hlk hK hI hfin dX_carryOut_191
    rw [if_neg hk136_2] at hfin
    by_cases hk136_3 : (a0 >>> ((6 : Int32) &&& 31)) = (6 : Int32)
    · rw [if_pos hk136_3] at hfin
      refine lv_tableIn hx hb dX_carryOut_136 (off := 56) (tgt := 192) (by rw [hk136_3]; decide) (by rw [hk136_3]; decide) (by rw [hk136_3]; rfl) (by decide) ?_
      refine lv_aload_n hx hb dX_carryOut_192 rfl (lv_at hl 0 rfl) ?_
      refine lv_iload_n hx hb dX_carryOut_193 rfl (lv_at hl 1 rfl) ?_
      refine lv_iload_n hx hb dX_carryOut_194 rfl (lv_at hl 2 rfl) ?_
      refine lv_iload_n hx hb dX_carryOut_195 rfl (lv_at hl 3 rfl) ?_
      obtain ⟨z196, hz196, hfin⟩ := bd_ob hfin
      refine g_callMv [.int a0, .int a1, .int a2] [] X hK x_rcv hI (cx_test l D cA o q hne u a0 a1 a2 z196 hz196) (cwX_X_test X.2.2.2.2 ⟨Nat.le_of_ble_eq_true rfl, Nat.le_of_ble_eq_true rfl⟩) rfl hl.1 rfl (Nat.le_of_ble_eq_true rfl) dX_carryOut_196 (fun H locs hI => ?_)
      exact g_vret X hr hlk hK hI hfin dX_carryOut_199
    rw [if_neg hk136_3] at hfin
    have hn136_0 := i32_ne (3 : Int32) 3 (by decide) hk136_0
    have hn136_1 := i32_ne (4 : Int32) 4 (by decide) hk136_1
    have hn136_2 := i32_ne (5 : Int32) 5 (by decide) hk136_2
    have hn136_3 := i32_ne (6 : Int32) 6 (by decide) hk136_3
    refine lv_tableOut hx hb dX_carryOut_136 (tgt := 200) (by omega) (by decide) ?_
    refine lv_aload_n hx hb dX_carryOut_200 rfl (lv_at hl 0 rfl) ?_
    refine lv_iconst (v := (2 : Int32)) hx hb dX_carryOut_201 (by decide) ?_
    obtain ⟨z202, hz202, hfin⟩ := bd_ob hfin
    refine g_callMv [.int (2 : Int32)] [] X hK x_rcv hI (cx_raise l D cA o q hne u (2 : Int32) z202 hz202) (cwX_X_raise X.2.2.2.2 ⟨Nat.le_of_ble_eq_true rfl, Nat.le_of_ble_eq_true rfl⟩) rfl hl.1 rfl (Nat.le_of_ble_eq_true rfl) dX_carryOut_202 (fun H locs hI => ?_)
    exact g_vret X hr hlk hK hI hfin dX_carryOut_205
  rw [if_neg hk3_4] at hfin
  by_cases hk3_5 : (a0 >>> ((3 : Int32) &&& 31)) = (16 : Int32)
  · rw [if_pos hk3_5] at hfin
    refine lv_tableIn hx hb dX_carryOut_3 (off := 73) (tgt := 76) (by rw [hk3_5]; decide) (by rw [hk3_5]; decide) (by rw [hk3_5]; rfl) (by decide) ?_
    refine lv_aload_n hx hb dX_carryOut_76 rfl (lv_at hl 0 rfl) ?_
    refine lv_iload_n hx hb dX_carryOut_77 rfl (lv_at hl 1 rfl) ?_
    refine lv_iload_n hx hb dX_carryOut_78 rfl (lv_at hl 2 rfl) ?_
    refine lv_iload_n hx hb dX_carryOut_79 rfl (lv_at hl 3 rfl) ?_
    obtain ⟨z80, hz80, hfin⟩ := bd_ob hfin
    refine g_callMv [.int a0, .int a1, .int a2] [] X hK x_rcv hI (cx_move l D cA o q hne u a0 a1 a2 z80 hz80) (cwX_X_move X.2.2.2.2 ⟨Nat.le_of_ble_eq_true rfl, Nat.le_of_ble_eq_true rfl⟩) rfl hl.1 rfl (Nat.le_of_ble_eq_true rfl) dX_carryOut_80 (fun H locs hI => ?_)
    exact g_vret X hr hlk hK hI hfin dX_carryOut_83
  rw [if_neg hk3_5] at hfin
  by_cases hk3_6 : (a0 >>> ((3 : Int32) &&& 31)) = (17 : Int32)
  · rw [if_pos hk3_6] at hfin
    refine lv_tableIn hx hb dX_carryOut_3 (off := 73) (tgt := 76) (by rw [hk3_6]; decide) (by rw [hk3_6]; decide) (by rw [hk3_6]; rfl) (by decide) ?_
    refine lv_aload_n hx hb dX_carryOut_76 rfl (lv_at hl 0 rfl) ?_
    refine lv_iload_n hx hb dX_carryOut_77 rfl (lv_at hl 1 rfl) ?_
    refine lv_iload_n hx hb dX_carryOut_78 rfl (lv_at hl 2 rfl) ?_
    refine lv_iload_n hx hb dX_carryOut_79 rfl (lv_at hl 3 rfl) ?_
    obtain ⟨z80, hz80, hfin⟩ := bd_ob hfin
    refine g_callMv [.int a0, .int a1, .int a2] [] X hK x_rcv hI (cx_move l D cA o q hne u a0 a1 a2 z80 hz80) (cwX_X_move X.2.2.2.2 ⟨Nat.le_of_ble_eq_true rfl, Nat.le_of_ble_eq_true rfl⟩) rfl hl.1 rfl (Nat.le_of_ble_eq_true rfl) dX_carryOut_80 (fun H locs hI => ?_)
    exact g_vret X hr hlk hK hI hfin dX_carryOut_83
  rw [if_neg hk3_6] at hfin
  by_cases hk3_7 : (a0 >>> ((3 : Int32) &&& 31)) = (18 : Int32)
  · rw [if_pos hk3_7] at hfin
    refine lv_tableIn hx hb dX_carryOut_3 (off := 81) (tgt := 84) (by rw [hk3_7]; decide) (by rw [hk3_7]; decide) (by rw [hk3_7]; rfl) (by decide) ?_
    refine lv_aload_n hx hb dX_carryOut_84 rfl (lv_at hl 0 rfl) ?_
    refine lv_iload_n hx hb dX_carryOut_85 rfl (lv_at hl 1 rfl) ?_
    refine lv_iload_n hx hb dX_carryOut_86 rfl (lv_at hl 2 rfl) ?_
    refine lv_iload_n hx hb dX_carryOut_87 rfl (lv_at hl 3 rfl) ?_
    obtain ⟨z88, hz88, hfin⟩ := bd_ob hfin
    refine g_callMv [.int a0, .int a1, .int a2] [] X hK x_rcv hI (cx_multiply l D cA o q hne u a0 a1 a2 z88 hz88) (cwX_X_multiply X.2.2.2.2 ⟨Nat.le_of_ble_eq_true rfl, Nat.le_of_ble_eq_true rfl⟩) rfl hl.1 rfl (Nat.le_of_ble_eq_true rfl) dX_carryOut_88 (fun H locs hI => ?_)
    exact g_vret X hr hlk hK hI hfin dX_carryOut_91
  rw [if_neg hk3_7] at hfin
  by_cases hk3_8 : (a0 >>> ((3 : Int32) &&& 31)) = (19 : Int32)
  · rw [if_pos hk3_8] at hfin
    refine lv_tableIn hx hb dX_carryOut_3 (off := 89) (tgt := 92) (by rw [hk3_8]; decide) (by rw [hk3_8]; decide) (by rw [hk3_8]; rfl) (by decide) ?_
    refine lv_aload_n hx hb dX_carryOut_92 rfl (lv_at hl 0 rfl) ?_
    refine lv_iload_n hx hb dX_carryOut_93 rfl (lv_at hl 1 rfl) ?_
    refine lv_iload_n hx hb dX_carryOut_94 rfl (lv_at hl 2 rfl) ?_
    refine lv_iload_n hx hb dX_carryOut_95 rfl (lv_at hl 3 rfl) ?_
    obtain ⟨z96, hz96, hfin⟩ := bd_ob hfin
    refine g_callMv [.int a0, .int a1, .int a2] [] X hK x_rcv hI (cx_divide l D cA o q hne u a0 a1 a2 z96 hz96) (cwX_X_divide X.2.2.2.2 ⟨Nat.le_of_ble_eq_true rfl, Nat.le_of_ble_eq_true rfl⟩) rfl hl.1 rfl (Nat.le_of_ble_eq_true rfl) dX_carryOut_96 (fun H locs hI => ?_)
    exact g_vret X hr hlk hK hI hfin dX_carryOut_99
  rw [if_neg hk3_8] at hfin
  by_cases hk3_9 : (a0 >>> ((3 : Int32) &&& 31)) = (20 : Int32)
  · rw [if_pos hk3_9] at hfin
    refine lv_tableIn hx hb dX_carryOut_3 (off := 97) (tgt := 100) (by rw [hk3_9]; decide) (by rw [hk3_9]; decide) (by rw [hk3_9]; rfl) (by decide) ?_
    refine lv_aload_n hx hb dX_carryOut_100 rfl (lv_at hl 0 rfl) ?_
    refine lv_iload_n hx hb dX_carryOut_101 rfl (lv_at hl 1 rfl) ?_
    refine lv_iload_n hx hb dX_carryOut_102 rfl (lv_at hl 2 rfl) ?_
    refine lv_iload_n hx hb dX_carryOut_103 rfl (lv_at hl 3 rfl) ?_
    obtain ⟨z104, hz104, hfin⟩ := bd_ob hfin
    refine g_callMv [.int a0, .int a1, .int a2] [] X hK x_rcv hI (cx_shift l D cA o q hne u a0 a1 a2 z104 hz104) (cwX_X_shift X.2.2.2.2 ⟨Nat.le_of_ble_eq_true rfl, Nat.le_of_ble_eq_true rfl⟩) rfl hl.1 rfl (Nat.le_of_ble_eq_true rfl) dX_carryOut_104 (fun H locs hI => ?_)
    exact g_vret X hr hlk hK hI hfin dX_carryOut_107
  rw [if_neg hk3_9] at hfin
  by_cases hk3_10 : (a0 >>> ((3 : Int32) &&& 31)) = (21 : Int32)
  · rw [if_pos hk3_10] at hfin
    refine lv_tableIn hx hb dX_carryOut_3 (off := 105) (tgt := 108) (by rw [hk3_10]; decide) (by rw [hk3_10]; decide) (by rw [hk3_10]; rfl) (by decide) ?_
    refine lv_aload_n hx hb dX_carryOut_108 rfl (lv_at hl 0 rfl) ?_
    refine lv_iload_n hx hb dX_carryOut_109 rfl (lv_at hl 1 rfl) ?_
    refine lv_iload_n hx hb dX_carryOut_110 rfl (lv_at hl 2 rfl) ?_
    refine lv_iload_n hx hb dX_carryOut_111 rfl (lv_at hl 3 rfl) ?_
    obtain ⟨z112, hz112, hfin⟩ := bd_ob hfin
    refine g_callMv [.int a0, .int a1, .int a2] [] X hK x_rcv hI (cx_exchangeOrJump l D cA o q hne u a0 a1 a2 z112 hz112) (cwX_X_exchangeOrJump X.2.2.2.2 ⟨Nat.le_of_ble_eq_true rfl, Nat.le_of_ble_eq_true rfl⟩) rfl hl.1 rfl (Nat.le_of_ble_eq_true rfl) dX_carryOut_112 (fun H locs hI => ?_)
    exact g_vret X hr hlk hK hI hfin dX_carryOut_115
  rw [if_neg hk3_10] at hfin
  by_cases hk3_11 : (a0 >>> ((3 : Int32) &&& 31)) = (22 : Int32)
  · rw [if_pos hk3_11] at hfin
    refine lv_tableIn hx hb dX_carryOut_3 (off := 113) (tgt := 116) (by rw [hk3_11]; decide) (by rw [hk3_11]; decide) (by rw [hk3_11]; rfl) (by decide) ?_
    refine lv_aload_n hx hb dX_carryOut_116 rfl (lv_at hl 0 rfl) ?_
    refine lv_iload_n hx hb dX_carryOut_117 rfl (lv_at hl 1 rfl) ?_
    refine lv_iload_n hx hb dX_carryOut_118 rfl (lv_at hl 2 rfl) ?_
    refine lv_iload_n hx hb dX_carryOut_119 rfl (lv_at hl 3 rfl) ?_
    obtain ⟨z120, hz120, hfin⟩ := bd_ob hfin
    refine g_callMv [.int a0, .int a1, .int a2] [] X hK x_rcv hI (cx_stack l D cA o q hne u a0 a1 a2 z120 hz120) (cwX_X_stack X.2.2.2.2 ⟨Nat.le_of_ble_eq_true rfl, Nat.le_of_ble_eq_true rfl⟩) rfl hl.1 rfl (Nat.le_of_ble_eq_true rfl) dX_carryOut_120 (fun H locs hI => ?_)
    exact g_vret X hr hlk hK hI hfin dX_carryOut_123
  rw [if_neg hk3_11] at hfin
  by_cases hk3_12 : (a0 >>> ((3 : Int32) &&& 31)) = (23 : Int32)
  · rw [if_pos hk3_12] at hfin
    refine lv_tableIn hx hb dX_carryOut_3 (off := 121) (tgt := 124) (by rw [hk3_12]; decide) (by rw [hk3_12]; decide) (by rw [hk3_12]; rfl) (by decide) ?_
    refine lv_aload_n hx hb dX_carryOut_124 rfl (lv_at hl 0 rfl) ?_
    refine lv_iload_n hx hb dX_carryOut_125 rfl (lv_at hl 1 rfl) ?_
    refine lv_iload_n hx hb dX_carryOut_126 rfl (lv_at hl 2 rfl) ?_
    refine lv_iload_n hx hb dX_carryOut_127 rfl (lv_at hl 3 rfl) ?_
    obtain ⟨z128, hz128, hfin⟩ := bd_ob hfin
    refine g_callMv [.int a0, .int a1, .int a2] [] X hK x_rcv hI (cx_sum l D cA o q hne u a0 a1 a2 z128 hz128) (cwX_X_sum X.2.2.2.2 ⟨Nat.le_of_ble_eq_true rfl, Nat.le_of_ble_eq_true rfl⟩) rfl hl.1 rfl (Nat.le_of_ble_eq_true rfl) dX_carryOut_128 (fun H locs hI => ?_)
    exact g_vret X hr hlk hK hI hfin dX_carryOut_131
  rw [if_neg hk3_12] at hfin
  have hn3_0 := i32_ne (11 : Int32) 11 (by decide) hk3_0
  have hn3_1 := i32_ne (12 : Int32) 12 (by decide) hk3_1
  have hn3_2 := i32_ne (13 : Int32) 13 (by decide) hk3_2
  have hn3_3 := i32_ne (14 : Int32) 14 (by decide) hk3_3
  have hn3_4 := i32_ne (15 : Int32) 15 (by decide) hk3_4
  have hn3_5 := i32_ne (16 : Int32) 16 (by decide) hk3_5
  have hn3_6 := i32_ne (17 : Int32) 17 (by decide) hk3_6
  have hn3_7 := i32_ne (18 : Int32) 18 (by decide) hk3_7
  have hn3_8 := i32_ne (19 : Int32) 19 (by decide) hk3_8
  have hn3_9 := i32_ne (20 : Int32) 20 (by decide) hk3_9
  have hn3_10 := i32_ne (21 : Int32) 21 (by decide) hk3_10
  have hn3_11 := i32_ne (22 : Int32) 22 (by decide) hk3_11
  have hn3_12 := i32_ne (23 : Int32) 23 (by decide) hk3_12
  refine lv_tableOut hx hb dX_carryOut_3 (tgt := 132) (by omega) (by decide) ?_
  refine lv_iload_n hx hb dX_carryOut_132 rfl (lv_at hl 1 rfl) ?_
  refine lv_bipush (v := (6 : Int32)) hx hb dX_carryOut_133 (by decide) ?_
  refine lv_ishr hx hb dX_carryOut_135 ?_
  by_cases hk136_0 : (a0 >>> ((6 : Int32) &&& 31)) = (3 : Int32)
  · rw [if_pos hk136_0] at hfin
    refine lv_tableIn hx hb dX_carryOut_136 (off := 32) (tgt := 168) (by rw [hk136_0]; decide) (by rw [hk136_0]; decide) (by rw [hk136_0]; rfl) (by decide) ?_
    refine lv_aload_n hx hb dX_carryOut_168 rfl (lv_at hl 0 rfl) ?_
    refine lv_iload_n hx hb dX_carryOut_169 rfl (lv_at hl 1 rfl) ?_
    refine lv_iload_n hx hb dX_carryOut_170 rfl (lv_at hl 2 rfl) ?_
    refine lv_iload_n hx hb dX_carryOut_171 rfl (lv_at hl 3 rfl) ?_
    obtain ⟨z172, hz172, hfin⟩ := bd_ob hfin
    refine g_callMv [.int a0, .int a1, .int a2] [] X hK x_rcv hI (cx_compare l D cA o q hne u a0 a1 a2 z172 hz172) (cwX_X_compare X.2.2.2.2 ⟨Nat.le_of_ble_eq_true rfl, Nat.le_of_ble_eq_true rfl⟩) rfl hl.1 rfl (Nat.le_of_ble_eq_true rfl) dX_carryOut_172 (fun H locs hI => ?_)
    exact g_vret X hr hlk hK hI hfin dX_carryOut_175
  rw [if_neg hk136_0] at hfin
  by_cases hk136_1 : (a0 >>> ((6 : Int32) &&& 31)) = (4 : Int32)
  · rw [if_pos hk136_1] at hfin
    refine lv_tableIn hx hb dX_carryOut_136 (off := 40) (tgt := 176) (by rw [hk136_1]; decide) (by rw [hk136_1]; decide) (by rw [hk136_1]; rfl) (by decide) ?_
    refine lv_aload_n hx hb dX_carryOut_176 rfl (lv_at hl 0 rfl) ?_
    refine lv_iload_n hx hb dX_carryOut_177 rfl (lv_at hl 1 rfl) ?_
    refine lv_iload_n hx hb dX_carryOut_178 rfl (lv_at hl 2 rfl) ?_
    refine lv_iload_n hx hb dX_carryOut_179 rfl (lv_at hl 3 rfl) ?_
    obtain ⟨z180, hz180, hfin⟩ := bd_ob hfin
    refine g_callMv [.int a0, .int a1, .int a2] [] X hK x_rcv hI (cx_logic l D cA o q hne u a0 a1 a2 z180 hz180) (cwX_X_logic X.2.2.2.2 ⟨Nat.le_of_ble_eq_true rfl, Nat.le_of_ble_eq_true rfl⟩) rfl hl.1 rfl (Nat.le_of_ble_eq_true rfl) dX_carryOut_180 (fun H locs hI => ?_)
    exact g_vret X hr hlk hK hI hfin dX_carryOut_183
  rw [if_neg hk136_1] at hfin
  by_cases hk136_2 : (a0 >>> ((6 : Int32) &&& 31)) = (5 : Int32)
  · rw [if_pos hk136_2] at hfin
    refine lv_tableIn hx hb dX_carryOut_136 (off := 48) (tgt := 184) (by rw [hk136_2]; decide) (by rw [hk136_2]; decide) (by rw [hk136_2]; rfl) (by decide) ?_
    refine lv_aload_n hx hb dX_carryOut_184 rfl (lv_at hl 0 rfl) ?_
    refine lv_iload_n hx hb dX_carryOut_185 rfl (lv_at hl 1 rfl) ?_
    refine lv_iload_n hx hb dX_carryOut_186 rfl (lv_at hl 2 rfl) ?_
    refine lv_iload_n hx hb dX_carryOut_187 rfl (lv_at hl 3 rfl) ?_
    obtain ⟨z188, hz188, hfin⟩ := bd_ob hfin
    refine g_callMv [.int a0, .int a1, .int a2] [] X hK x_rcv hI (cx_halves l D cA o q hne u a0 a1 a2 z188 hz188) (cwX_X_halves X.2.2.2.2 ⟨Nat.le_of_ble_eq_true rfl, Nat.le_of_ble_eq_true rfl⟩) rfl hl.1 rfl (Nat.le_of_ble_eq_true rfl) dX_carryOut_188 (fun H locs hI => ?_)
    exact g_vret X hr hlk hK hI hfin dX_carryOut_191
  rw [if_neg hk136_2] at hfin
  by_cases hk136_3 : (a0 >>> ((6 : Int32) &&& 31)) = (6 : Int32)
  · rw [if_pos hk136_3] at hfin
    refine lv_tableIn hx hb dX_carryOut_136 (off := 56) (tgt := 192) (by rw [hk136_3]; decide) (by rw [hk136_3]; decide) (by rw [hk136_3]; rfl) (by decide) ?_
    refine lv_aload_n hx hb dX_carryOut_192 rfl (lv_at hl 0 rfl) ?_
    refine lv_iload_n hx hb dX_carryOut_193 rfl (lv_at hl 1 rfl) ?_
    refine lv_iload_n hx hb dX_carryOut_194 rfl (lv_at hl 2 rfl) ?_
    refine lv_iload_n hx hb dX_carryOut_195 rfl (lv_at hl 3 rfl) ?_
    obtain ⟨z196, hz196, hfin⟩ := bd_ob hfin
    refine g_callMv [.int a0, .int a1, .int a2] [] X hK x_rcv hI (cx_test l D cA o q hne u a0 a1 a2 z196 hz196) (cwX_X_test X.2.2.2.2 ⟨Nat.le_of_ble_eq_true rfl, Nat.le_of_ble_eq_true rfl⟩) rfl hl.1 rfl (Nat.le_of_ble_eq_true rfl) dX_carryOut_196 (fun H locs hI => ?_)
    exact g_vret X hr hlk hK hI hfin dX_carryOut_199
  rw [if_neg hk136_3] at hfin
  have hn136_0 := i32_ne (3 : Int32) 3 (by decide) hk136_0
  have hn136_1 := i32_ne (4 : Int32) 4 (by decide) hk136_1
  have hn136_2 := i32_ne (5 : Int32) 5 (by decide) hk136_2
  have hn136_3 := i32_ne (6 : Int32) 6 (by decide) hk136_3
  refine lv_tableOut hx hb dX_carryOut_136 (tgt := 200) (by omega) (by decide) ?_
  refine lv_aload_n hx hb dX_carryOut_200 rfl (lv_at hl 0 rfl) ?_
  refine lv_iconst (v := (2 : Int32)) hx hb dX_carryOut_201 (by decide) ?_
  obtain ⟨z202, hz202, hfin⟩ := bd_ob hfin
  refine g_callMv [.int (2 : Int32)] [] X hK x_rcv hI (cx_raise l D cA o q hne u (2 : Int32) z202 hz202) (cwX_X_raise X.2.2.2.2 ⟨Nat.le_of_ble_eq_true rfl, Nat.le_of_ble_eq_true rfl⟩) rfl hl.1 rfl (Nat.le_of_ble_eq_true rfl) dX_carryOut_202 (fun H locs hI => ?_)
  exact g_vret X hr hlk hK hI hfin dX_carryOut_205
set_option maxHeartbeats 4000000 in
set_option maxRecDepth 100000 in
theorem cx_enterTrap (l : Launch) (D : va_G) (cA : ClassId) (o q : Nat) (hne : va_nd [o, q] = true) (u : XS) (a0 : Int32) (z : XS) (hfin : x_enterTrap u a0 = some z) : gMv l yX_enterTrap wX_enterTrap (rmF 1 21) D [(cA, .long)] (XW cA o q) (XA o q) [.ref o, .int a0] u z := by
  refine g_start (plainFor_of_name (by decide)) (Nat.le_of_ble_eq_true rfl) ?_
  intro p e s0 m args below meth c ls X hr hlk hB hl
  obtain ⟨hP0, hK⟩ := hB
  have hI : gI D (XW cA o q) (XA o q) s0.heap s0.heap [] u := ⟨hP0, va_S.rf⟩
  have hl : lv_has ls 2 [(0, .ref o), (1, .int a0)] := hl
  have hx := X.1
  have hb := X.2.1
  rw [x_enterTrap] at hfin
  refine lv_aload_n hx hb dX_enterTrap_0 rfl (lv_at hl 0 rfl) ?_
  refine xg_words X hK hI.1 dX_enterTrap_1 ?_
  refine lv_bipush (v := (32 : Int32)) hx hb dX_enterTrap_4 (by decide) ?_
  refine lv_aload_n hx hb dX_enterTrap_6 rfl (lv_at hl 0 rfl) ?_
  refine g_callRi [] [.int (32 : Int32), .ref q] X hK x_rcv hI.1 (cx_flags l D cA o q u) (cwX_X_flags X.2.2.2.2 ⟨Nat.le_of_ble_eq_true rfl, Nat.le_of_ble_eq_true rfl⟩) rfl hl.1 rfl (Nat.le_of_ble_eq_true rfl) dX_enterTrap_7 ?_
  refine lv_aload_n hx hb dX_enterTrap_10 rfl (lv_at hl 0 rfl) ?_
  refine xg_trap X hK hI.1 dX_enterTrap_11 ?_
  refine lv_ior hx hb dX_enterTrap_14 ?_
  refine lv_iload_n hx hb dX_enterTrap_15 rfl (lv_at hl 1 rfl) ?_
  refine g_callPl [.int ((x_flags u) ||| (X_trap u)), .int a0] [.int (32 : Int32), .ref q] X (cx_joined l ((x_flags u) ||| (X_trap u)) a0) (cwX_X_joined X.2.2.2.2 ⟨Nat.le_of_ble_eq_true rfl, Nat.le_of_ble_eq_true rfl⟩) rfl hl.1 rfl (Nat.le_of_ble_eq_true rfl) dX_enterTrap_16 ?_
  refine xs_words X hK (x_D hne) hI (by decide) dX_enterTrap_19 (fun H locs hI => ?_)
  refine lv_aload_n hx hb dX_enterTrap_20 rfl (lv_at hl 0 rfl) ?_
  refine lv_iconst (v := (0 : Int32)) hx hb dX_enterTrap_21 (by decide) ?_
  refine xp_user X hK (x_D hne) hI (Or.inl rfl) dX_enterTrap_22 (fun H locs hI => ?_)
  refine lv_aload_n hx hb dX_enterTrap_25 rfl (lv_at hl 0 rfl) ?_
  refine lv_bipush (v := (33 : Int32)) hx hb dX_enterTrap_26 (by decide) ?_
  refine xp_pc X hK (x_D hne) hI dX_enterTrap_28 (fun H locs hI => ?_)
  refine lv_aload_n hx hb dX_enterTrap_31 rfl (lv_at hl 0 rfl) ?_
  refine lv_dup hx hb dX_enterTrap_32 rfl ?_
  refine xg_traps X hK hI.1 dX_enterTrap_33 ?_
  refine lv_iconst (v := (1 : Int32)) hx hb dX_enterTrap_36 (by decide) ?_
  refine lv_iadd hx hb dX_enterTrap_37 ?_
  refine xp_traps X hK (x_D hne) hI dX_enterTrap_38 (fun H locs hI => ?_)
  refine lv_aload_n hx hb dX_enterTrap_41 rfl (lv_at hl 0 rfl) ?_
  refine lv_aload_n hx hb dX_enterTrap_42 rfl (lv_at hl 0 rfl) ?_
  refine xg_trap X hK hI.1 dX_enterTrap_43 ?_
  refine xp_latestTrap X hK (x_D hne) hI dX_enterTrap_46 (fun H locs hI => ?_)
  exact g_vret X hr hlk hK hI hfin dX_enterTrap_49
set_option maxHeartbeats 4000000 in
set_option maxRecDepth 100000 in
theorem cx_step (l : Launch) (D : va_G) (cA : ClassId) (o q : Nat) (hne : va_nd [o, q] = true) (u : XS)  (z : XS) (hfin : x_step u = some z) : gMv l yX_step wX_step (rmF 6 145) D [(cA, .long)] (XW cA o q) (XA o q) [.ref o] u z := by
  refine g_start (plainFor_of_name (by decide)) (Nat.le_of_ble_eq_true rfl) ?_
  intro p e s0 m args below meth c ls X hr hlk hB hl
  obtain ⟨hP0, hK⟩ := hB
  have hI : gI D (XW cA o q) (XA o q) s0.heap s0.heap [] u := ⟨hP0, va_S.rf⟩
  have hl : lv_has ls 6 [(0, .ref o)] := hl
  have hx := X.1
  have hb := X.2.1
  have B_122 : ∀ (u : XS) (v1 : Int32) (H : Heap) (locs : List Loc) (ls : Array Slot), lv_has ls 6 [(0, .ref o), (1, .int v1)] → gI D (XW cA o q) (XA o q) s0.heap H locs u → x_step_122 u v1 = some z → W p l e (rmF 6 145) s0 m args below meth c H locs 0 0 (MQ below (va_Qv (fun x => x = z) (gB D [(cA, .long)] (XW cA o q)) (XA o q)) args s0 0 0 (XA o q)) (F0 m 122 ls []) := by
    intro u v1 H locs ls hl hI hfin
    rw [x_step_122] at hfin
    refine lv_aload_n hx hb dX_step_122 rfl (lv_at hl 0 rfl) ?_
    refine xg_trap X hK hI.1 dX_step_123 ?_
    refine lv_if_eq (tgt := 134) hx hb dX_step_126 (by decide) (fun hc126 => ?_) (fun hc126 => ?_)
    · rw [if_pos hc126] at hfin
      exact g_vret X hr hlk hK hI hfin dX_step_134
    rw [if_neg hc126] at hfin
    refine lv_aload_n hx hb dX_step_129 rfl (lv_at hl 0 rfl) ?_
    refine lv_iload_n hx hb dX_step_130 rfl (lv_at hl 1 rfl) ?_
    obtain ⟨z131, hz131, hfin⟩ := bd_ob hfin
    refine g_callMv [.int v1] [] X hK x_rcv hI (cx_enterTrap l D cA o q hne u v1 z131 hz131) (cwX_X_enterTrap X.2.2.2.2 ⟨Nat.le_of_ble_eq_true rfl, Nat.le_of_ble_eq_true rfl⟩) rfl hl.1 rfl (Nat.le_of_ble_eq_true rfl) dX_step_131 (fun H locs hI => ?_)
    exact g_vret X hr hlk hK hI hfin dX_step_134
  have B_101 : ∀ (u : XS) (v1 : Int32) (v2 : Int64) (v4 : Int32) (H : Heap) (locs : List Loc) (ls : Array Slot), lv_has ls 6 [(0, .ref o), (1, .int v1), (2, .long v2), (4, .int v4)] → gI D (XW cA o q) (XA o q) s0.heap H locs u → x_step_101 u v1 v2 v4 = some z → W p l e (rmF 6 145) s0 m args below meth c H locs 0 0 (MQ below (va_Qv (fun x => x = z) (gB D [(cA, .long)] (XW cA o q)) (XA o q)) args s0 0 0 (XA o q)) (F0 m 101 ls []) := by
    intro u v1 v2 v4 H locs ls hl hI hfin
    rw [x_step_101] at hfin
    refine lv_aload_n hx hb dX_step_101 rfl (lv_at hl 0 rfl) ?_
    refine xg_trap X hK hI.1 dX_step_102 ?_
    refine lv_if_ne (tgt := 122) hx hb dX_step_105 (by decide) (fun hc105 => ?_) (fun hc105 => ?_)
    · rw [if_neg hc105] at hfin
      exact B_122 u v1 H locs ls (lv_sub hl [0, 1] rfl) hI hfin
    rw [if_pos hc105] at hfin
    refine lv_aload_n hx hb dX_step_108 rfl (lv_at hl 0 rfl) ?_
    refine lv_lload_n hx hb dX_step_109 rfl (lv_at hl 2 rfl) ?_
    refine g_callPi [.long v2] [.ref o] X (cx_operation l v2) (cwX_X_operation X.2.2.2.2 ⟨Nat.le_of_ble_eq_true rfl, Nat.le_of_ble_eq_true rfl⟩) rfl hl.1 rfl (Nat.le_of_ble_eq_true rfl) dX_step_110 ?_
    refine lv_lload_n hx hb dX_step_113 rfl (lv_at hl 2 rfl) ?_
    refine g_callPi [.long v2] [.int (x_operation v2), .ref o] X (cx_accumulator l v2) (cwX_X_accumulator X.2.2.2.2 ⟨Nat.le_of_ble_eq_true rfl, Nat.le_of_ble_eq_true rfl⟩) rfl hl.1 rfl (Nat.le_of_ble_eq_true rfl) dX_step_114 ?_
    refine lv_iload hx hb dX_step_117 (lv_at hl 3 rfl) ?_
    obtain ⟨z119, hz119, hfin⟩ := bd_ob hfin
    refine g_callMv [.int (x_operation v2), .int (x_accumulator v2), .int v4] [] X hK x_rcv hI (cx_carryOut l D cA o q hne u (x_operation v2) (x_accumulator v2) v4 z119 hz119) (cwX_X_carryOut X.2.2.2.2 ⟨Nat.le_of_ble_eq_true rfl, Nat.le_of_ble_eq_true rfl⟩) rfl hl.1 rfl (Nat.le_of_ble_eq_true rfl) dX_step_119 (fun H locs hI => ?_)
    exact B_122 z119 v1 H locs ls (lv_sub hl [0, 1] rfl) hI hfin
  have B_57 : ∀ (k : Nat) (u : XS) (v1 : Int32) (v2 : Int64) (v4 : Int32) (v5 : Int32) (H : Heap) (locs : List Loc) (ls : Array Slot), lv_has ls 6 [(0, .ref o), (1, .int v1), (2, .long v2), (4, .int v4), (5, .int v5)] → gI D (XW cA o q) (XA o q) s0.heap H locs u → x_step_57 k u v1 v2 v4 v5 = some z → W p l e (rmF 6 145) s0 m args below meth c H locs 0 0 (MQ below (va_Qv (fun x => x = z) (gB D [(cA, .long)] (XW cA o q)) (XA o q)) args s0 0 0 (XA o q)) (F0 m 57 ls []) := by
    intro k
    induction k with
    | zero =>
      intro u v1 v2 v4 v5 H locs ls hl hI hfin
      rw [x_step_57] at hfin
      cases hfin
    | succ k IH =>
      intro u v1 v2 v4 v5 H locs ls hl hI hfin
      rw [x_step_57] at hfin
      refine lv_iload hx hb dX_step_57 (lv_at hl 4 rfl) ?_
      refine lv_bipush (v := (8 : Int32)) hx hb dX_step_59 (by decide) ?_
      refine lv_icmp_gt (tgt := 101) hx hb dX_step_61 (by decide) (fun hc61 => ?_) (fun hc61 => ?_)
      · rw [if_pos hc61] at hfin
        exact B_101 u v1 v2 v4 H locs ls (lv_sub hl [0, 1, 2, 3] rfl) hI hfin
      rw [if_neg hc61] at hfin
      refine lv_aload_n hx hb dX_step_64 rfl (lv_at hl 0 rfl) ?_
      refine xg_trap X hK hI.1 dX_step_65 ?_
      refine lv_if_ne (tgt := 101) hx hb dX_step_68 (by decide) (fun hc68 => ?_) (fun hc68 => ?_)
      · rw [if_neg hc68] at hfin
        exact B_101 u v1 v2 v4 H locs ls (lv_sub hl [0, 1, 2, 3] rfl) hI hfin
      rw [if_pos hc68] at hfin
      refine lv_lload_n hx hb dX_step_71 rfl (lv_at hl 2 rfl) ?_
      refine g_callPi [.long v2] [] X (cx_operation l v2) (cwX_X_operation X.2.2.2.2 ⟨Nat.le_of_ble_eq_true rfl, Nat.le_of_ble_eq_true rfl⟩) rfl hl.1 rfl (Nat.le_of_ble_eq_true rfl) dX_step_72 ?_
      refine lv_sipush (v := (174 : Int32)) hx hb dX_step_75 (by decide) ?_
      refine lv_icmp_ne (tgt := 101) hx hb dX_step_78 (by decide) (fun hc78 => ?_) (fun hc78 => ?_)
      · rw [if_neg hc78] at hfin
        exact B_101 u v1 v2 v4 H locs ls (lv_sub hl [0, 1, 2, 3] rfl) hI hfin
      rw [if_pos hc78] at hfin
      refine lv_aload_n hx hb dX_step_81 rfl (lv_at hl 0 rfl) ?_
      refine lv_iload hx hb dX_step_82 (lv_at hl 3 rfl) ?_
      obtain ⟨z84, hz84, hfin⟩ := bd_ob hfin
      refine g_callMl [.int v4] [] X hK x_rcv hI (cx_take l D cA o q hne u v4 z84 hz84) (cwX_X_take X.2.2.2.2 ⟨Nat.le_of_ble_eq_true rfl, Nat.le_of_ble_eq_true rfl⟩) rfl hl.1 rfl (Nat.le_of_ble_eq_true rfl) dX_step_84 (fun H locs hI => ?_)
      refine lv_lstore_n (lv' := [(2, .long z84.1), (0, .ref o), (1, .int v1), (4, .int v4), (5, .int v5)]) hx hb dX_step_87 rfl hl (by decide) rfl (fun ls hl => ?_)
      refine lv_aload_n hx hb dX_step_88 rfl (lv_at hl 1 rfl) ?_
      refine lv_lload_n hx hb dX_step_89 rfl (lv_at hl 0 rfl) ?_
      obtain ⟨z90, hz90, hfin⟩ := bd_ob hfin
      refine g_callMi [.long z84.1] [] X hK x_rcv hI (cx_effective l D cA o q hne z84.2 z84.1 z90 hz90) (cwX_X_effective X.2.2.2.2 ⟨Nat.le_of_ble_eq_true rfl, Nat.le_of_ble_eq_true rfl⟩) rfl hl.1 rfl (Nat.le_of_ble_eq_true rfl) dX_step_90 (fun H locs hI => ?_)
      refine lv_istore (lv' := [(4, .int z90.1), (2, .long z84.1), (0, .ref o), (1, .int v1), (5, .int v5)]) hx hb dX_step_93 hl (by decide) rfl (fun ls hl => ?_)
      refine lv_iinc (lv' := [(5, .int (v5 + Int32.ofInt 1)), (4, .int z90.1), (2, .long z84.1), (0, .ref o), (1, .int v1)]) (k := 4) hx hb dX_step_95 hl rfl rfl (by decide) rfl (fun ls hl => ?_)
      refine lv_goto (tgt := 57) hx hb dX_step_98 (by decide) ?_
      exact IH z90.2 v1 z84.1 z90.1 (v5 + Int32.ofInt 1) H locs ls (lv_sub hl [3, 4, 2, 1, 0] rfl) hI hfin
  rw [x_step] at hfin
  refine lv_aload_n hx hb dX_step_0 rfl (lv_at hl 0 rfl) ?_
  refine xg_pc X hK hI.1 dX_step_1 ?_
  refine lv_topi (fun x4 e4 => ?_)
  replace hfin := nm_at hfin e4
  refine lv_istore_n (lv' := [(1, .int x4), (0, .ref o)]) hx hb dX_step_4 rfl hl (by decide) rfl (fun ls hl => ?_)
  refine lv_aload_n hx hb dX_step_5 rfl (lv_at hl 1 rfl) ?_
  refine lv_dup hx hb dX_step_6 rfl ?_
  refine xg_steps X hK hI.1 dX_step_7 ?_
  refine lv_iconst (v := (1 : Int32)) hx hb dX_step_10 (by decide) ?_
  refine lv_iadd hx hb dX_step_11 ?_
  refine xp_steps X hK (x_D hne) hI dX_step_12 (fun H locs hI => ?_)
  refine lv_aload_n hx hb dX_step_15 rfl (lv_at hl 1 rfl) ?_
  refine lv_iconst (v := (0 : Int32)) hx hb dX_step_16 (by decide) ?_
  refine xp_trap X hK (x_D hne) hI dX_step_17 (fun H locs hI => ?_)
  refine lv_aload_n hx hb dX_step_20 rfl (lv_at hl 1 rfl) ?_
  refine lv_iconst (v := (0 : Int32)) hx hb dX_step_21 (by decide) ?_
  refine xp_taken X hK (x_D hne) hI dX_step_22 (fun H locs hI => ?_)
  refine lv_aload_n hx hb dX_step_25 rfl (lv_at hl 1 rfl) ?_
  refine lv_aload_n hx hb dX_step_26 rfl (lv_at hl 1 rfl) ?_
  refine xg_pc X hK hI.1 dX_step_27 ?_
  obtain ⟨z30, hz30, hfin⟩ := bd_ob hfin
  refine g_callMl [.int (X_pc (X_s_taken (X_s_trap (X_s_steps u ((X_steps u) + (1 : Int32))) (0 : Int32)) (0 : Int32)))] [] X hK x_rcv hI (cx_read l D cA o q hne (X_s_taken (X_s_trap (X_s_steps u ((X_steps u) + (1 : Int32))) (0 : Int32)) (0 : Int32)) (X_pc (X_s_taken (X_s_trap (X_s_steps u ((X_steps u) + (1 : Int32))) (0 : Int32)) (0 : Int32))) z30 hz30) (cwX_X_read X.2.2.2.2 ⟨Nat.le_of_ble_eq_true rfl, Nat.le_of_ble_eq_true rfl⟩) rfl hl.1 rfl (Nat.le_of_ble_eq_true rfl) dX_step_30 (fun H locs hI => ?_)
  refine lv_lstore_n (lv' := [(2, .long z30.1), (1, .int x4), (0, .ref o)]) hx hb dX_step_33 rfl hl (by decide) rfl (fun ls hl => ?_)
  refine lv_aload_n hx hb dX_step_34 rfl (lv_at hl 2 rfl) ?_
  refine lv_aload_n hx hb dX_step_35 rfl (lv_at hl 2 rfl) ?_
  refine xg_pc X hK hI.1 dX_step_36 ?_
  refine lv_iconst (v := (1 : Int32)) hx hb dX_step_39 (by decide) ?_
  refine lv_iadd hx hb dX_step_40 ?_
  refine g_callPi [.int ((X_pc z30.2) + (1 : Int32))] [.ref o] X (cx_wrapped l ((X_pc z30.2) + (1 : Int32))) (cwX_X_wrapped X.2.2.2.2 ⟨Nat.le_of_ble_eq_true rfl, Nat.le_of_ble_eq_true rfl⟩) rfl hl.1 rfl (Nat.le_of_ble_eq_true rfl) dX_step_41 ?_
  refine xp_pc X hK (x_D hne) hI dX_step_44 (fun H locs hI => ?_)
  refine lv_aload_n hx hb dX_step_47 rfl (lv_at hl 2 rfl) ?_
  refine lv_lload_n hx hb dX_step_48 rfl (lv_at hl 0 rfl) ?_
  obtain ⟨z49, hz49, hfin⟩ := bd_ob hfin
  refine g_callMi [.long z30.1] [] X hK x_rcv hI (cx_effective l D cA o q hne (X_s_pc z30.2 (x_wrapped ((X_pc z30.2) + (1 : Int32)))) z30.1 z49 hz49) (cwX_X_effective X.2.2.2.2 ⟨Nat.le_of_ble_eq_true rfl, Nat.le_of_ble_eq_true rfl⟩) rfl hl.1 rfl (Nat.le_of_ble_eq_true rfl) dX_step_49 (fun H locs hI => ?_)
  refine lv_istore (lv' := [(4, .int z49.1), (2, .long z30.1), (1, .int x4), (0, .ref o)]) hx hb dX_step_52 hl (by decide) rfl (fun ls hl => ?_)
  refine lv_iconst (v := (0 : Int32)) hx hb dX_step_54 (by decide) ?_
  refine lv_istore (lv' := [(5, .int (0 : Int32)), (4, .int z49.1), (2, .long z30.1), (1, .int x4), (0, .ref o)]) hx hb dX_step_55 hl (by decide) rfl (fun ls hl => ?_)
  exact B_57 11 z49.2 x4 z30.1 z49.1 (0 : Int32) H locs ls (lv_sub hl [4, 3, 2, 1, 0] rfl) hI hfin
end
section
set_option maxHeartbeats 4000000 in
set_option maxRecDepth 100000 in
theorem cx_run (l : Launch) (D : va_G) (cA : ClassId) (o q : Nat) (hne : va_nd [o, q] = true) (u : XS) (a0 : Int32) (z : Int32 × XS) (hfin : x_run u a0 = some z) : gMi l yX_run wX_run (rmF 7 170) D [(cA, .long)] (XW cA o q) (XA o q) [.ref o, .int a0] u z := by
  refine g_start (plainFor_of_name (by decide)) (Nat.le_of_ble_eq_true rfl) ?_
  intro p e s0 m args below meth c ls X hr hlk hB hl
  obtain ⟨hP0, hK⟩ := hB
  have hI : gI D (XW cA o q) (XA o q) s0.heap s0.heap [] u := ⟨hP0, va_S.rf⟩
  have hl : lv_has ls 3 [(0, .ref o), (1, .int a0)] := hl
  have hx := X.1
  have hb := X.2.1
  have B_15 : ∀ (k : Nat) (u : XS) (v2 : Int32) (H : Heap) (locs : List Loc) (ls : Array Slot), lv_has ls 3 [(0, .ref o), (1, .int a0), (2, .int v2)] → gI D (XW cA o q) (XA o q) s0.heap H locs u → x_run_15 a0 k u v2 = some z → W p l e (rmF 7 170) s0 m args below meth c H locs 0 0 (MQ below (va_Qi (fun r x => (r, x) = z) (gB D [(cA, .long)] (XW cA o q)) (XA o q)) args s0 0 0 (XA o q)) (F0 m 15 ls []) := by
    intro k
    induction k with
    | zero =>
      intro u v2 H locs ls hl hI hfin
      rw [x_run_15] at hfin
      cases hfin
    | succ k IH =>
      intro u v2 H locs ls hl hI hfin
      rw [x_run_15] at hfin
      refine lv_iload_n hx hb dX_run_15 rfl (lv_at hl 2 rfl) ?_
      refine lv_iload_n hx hb dX_run_16 rfl (lv_at hl 1 rfl) ?_
      refine lv_icmp_ge (tgt := 37) hx hb dX_run_17 (by decide) (fun hc17 => ?_) (fun hc17 => ?_)
      · rw [if_pos hc17] at hfin
        refine lv_iload_n hx hb dX_run_37 rfl (lv_at hl 2 rfl) ?_
        exact g_iret X hr hlk hK hI hfin dX_run_38
      rw [if_neg hc17] at hfin
      refine lv_aload_n hx hb dX_run_20 rfl (lv_at hl 0 rfl) ?_
      refine xg_stopped X hK hI.1 dX_run_21 ?_
      refine lv_if_ne (tgt := 37) hx hb dX_run_24 (by decide) (fun hc24 => ?_) (fun hc24 => ?_)
      · rw [if_neg hc24] at hfin
        refine lv_iload_n hx hb dX_run_37 rfl (lv_at hl 2 rfl) ?_
        exact g_iret X hr hlk hK hI hfin dX_run_38
      rw [if_pos hc24] at hfin
      refine lv_aload_n hx hb dX_run_27 rfl (lv_at hl 0 rfl) ?_
      obtain ⟨z28, hz28, hfin⟩ := bd_ob hfin
      refine g_callMv [] [] X hK x_rcv hI (cx_step l D cA o q hne u z28 hz28) (cwX_X_step X.2.2.2.2 ⟨Nat.le_of_ble_eq_true rfl, Nat.le_of_ble_eq_true rfl⟩) rfl hl.1 rfl (Nat.le_of_ble_eq_true rfl) dX_run_28 (fun H locs hI => ?_)
      refine lv_iinc (lv' := [(2, .int (v2 + Int32.ofInt 1)), (0, .ref o), (1, .int a0)]) (k := 2) hx hb dX_run_31 hl rfl rfl (by decide) rfl (fun ls hl => ?_)
      refine lv_goto (tgt := 15) hx hb dX_run_34 (by decide) ?_
      exact IH z28 (v2 + Int32.ofInt 1) H locs ls (lv_sub hl [1, 2, 0] rfl) hI hfin
  rw [x_run] at hfin
  refine lv_iload_n hx hb dX_run_0 rfl (lv_at hl 1 rfl) ?_
  refine lv_iconst (v := (1 : Int32)) hx hb dX_run_1 (by decide) ?_
  refine lv_icmp_lt (tgt := 11) hx hb dX_run_2 (by decide) (fun hc2 => ?_) (fun hc2 => ?_)
  · rw [if_pos hc2] at hfin
    refine lv_iconst (v := (-1 : Int32)) hx hb dX_run_11 (by decide) ?_
    exact g_iret X hr hlk hK hI hfin dX_run_12
  rw [if_neg hc2] at hfin
  refine lv_iload_n hx hb dX_run_5 rfl (lv_at hl 1 rfl) ?_
  refine lv_bipush (v := (100 : Int32)) hx hb dX_run_6 (by decide) ?_
  refine lv_icmp_le (tgt := 13) hx hb dX_run_8 (by decide) (fun hc8 => ?_) (fun hc8 => ?_)
  · rw [if_pos hc8] at hfin
    refine lv_iconst (v := (0 : Int32)) hx hb dX_run_13 (by decide) ?_
    refine lv_istore_n (lv' := [(2, .int (0 : Int32)), (0, .ref o), (1, .int a0)]) hx hb dX_run_14 rfl hl (by decide) rfl (fun ls hl => ?_)
    exact B_15 101 u (0 : Int32) s0.heap [] ls (lv_sub hl [1, 2, 0] rfl) hI hfin
  rw [if_neg hc8] at hfin
  refine lv_iconst (v := (-1 : Int32)) hx hb dX_run_11 (by decide) ?_
  exact g_iret X hr hlk hK hI hfin dX_run_12
set_option maxHeartbeats 4000000 in
set_option maxRecDepth 100000 in
theorem cx_look (l : Launch) (D : va_G) (cA : ClassId) (o q : Nat) (u : XS) (a0 : Int32) : gRi l yX_look wX_look (rmF 0 0) D [(cA, .long)] (XW cA o q) [.ref o, .int a0] u (x_look u a0) := by
  obtain ⟨z, hz⟩ : ∃ z, z = x_look u a0 := ⟨_, rfl⟩
  rw [← hz]
  have hfin := hz.symm
  clear hz
  refine g_start (plainFor_of_name (by decide)) (Nat.le_of_ble_eq_true rfl) ?_
  intro p e s0 m args below meth c ls X hr hlk hB hl
  obtain ⟨hP0, hK⟩ := hB
  have hl : lv_has ls 2 [(0, .ref o), (1, .int a0)] := hl
  have hx := X.1
  have hb := X.2.1
  rw [x_look] at hfin
  refine lv_iload_n hx hb dX_look_0 rfl (lv_at hl 1 rfl) ?_
  by_cases hk1_0 : a0 = (0 : Int32)
  · rw [if_pos hk1_0] at hfin
    refine lv_tableIn hx hb dX_look_1 (off := 43) (tgt := 44) (by rw [hk1_0]; decide) (by rw [hk1_0]; decide) (by rw [hk1_0]; rfl) (by decide) ?_
    refine lv_aload_n hx hb dX_look_44 rfl (lv_at hl 0 rfl) ?_
    refine xg_pc X hK hP0 dX_look_45 ?_
    exact g_iretP X hr hlk hfin dX_look_48
  rw [if_neg hk1_0] at hfin
  by_cases hk1_1 : a0 = (1 : Int32)
  · rw [if_pos hk1_1] at hfin
    refine lv_tableIn hx hb dX_look_1 (off := 48) (tgt := 49) (by rw [hk1_1]; decide) (by rw [hk1_1]; decide) (by rw [hk1_1]; rfl) (by decide) ?_
    refine lv_aload_n hx hb dX_look_49 rfl (lv_at hl 0 rfl) ?_
    refine xg_user X hK hP0 dX_look_50 ?_
    refine lv_if_eq (tgt := 60) hx hb dX_look_53 (by decide) (fun hc53 => ?_) (fun hc53 => ?_)
    · rw [if_pos hc53] at hfin
      refine lv_iconst (v := (0 : Int32)) hx hb dX_look_60 (by decide) ?_
      exact g_iretP X hr hlk hfin dX_look_61
    rw [if_neg hc53] at hfin
    refine lv_iconst (v := (1 : Int32)) hx hb dX_look_56 (by decide) ?_
    refine lv_goto (tgt := 61) hx hb dX_look_57 (by decide) ?_
    exact g_iretP X hr hlk hfin dX_look_61
  rw [if_neg hk1_1] at hfin
  by_cases hk1_2 : a0 = (2 : Int32)
  · rw [if_pos hk1_2] at hfin
    refine lv_tableIn hx hb dX_look_1 (off := 61) (tgt := 62) (by rw [hk1_2]; decide) (by rw [hk1_2]; decide) (by rw [hk1_2]; rfl) (by decide) ?_
    refine lv_aload_n hx hb dX_look_62 rfl (lv_at hl 0 rfl) ?_
    refine xg_overflow X hK hP0 dX_look_63 ?_
    refine lv_if_eq (tgt := 73) hx hb dX_look_66 (by decide) (fun hc66 => ?_) (fun hc66 => ?_)
    · rw [if_pos hc66] at hfin
      refine lv_iconst (v := (0 : Int32)) hx hb dX_look_73 (by decide) ?_
      exact g_iretP X hr hlk hfin dX_look_74
    rw [if_neg hc66] at hfin
    refine lv_iconst (v := (1 : Int32)) hx hb dX_look_69 (by decide) ?_
    refine lv_goto (tgt := 74) hx hb dX_look_70 (by decide) ?_
    exact g_iretP X hr hlk hfin dX_look_74
  rw [if_neg hk1_2] at hfin
  by_cases hk1_3 : a0 = (3 : Int32)
  · rw [if_pos hk1_3] at hfin
    refine lv_tableIn hx hb dX_look_1 (off := 74) (tgt := 75) (by rw [hk1_3]; decide) (by rw [hk1_3]; decide) (by rw [hk1_3]; rfl) (by decide) ?_
    refine lv_aload_n hx hb dX_look_75 rfl (lv_at hl 0 rfl) ?_
    refine xg_stopped X hK hP0 dX_look_76 ?_
    refine lv_if_eq (tgt := 86) hx hb dX_look_79 (by decide) (fun hc79 => ?_) (fun hc79 => ?_)
    · rw [if_pos hc79] at hfin
      refine lv_iconst (v := (0 : Int32)) hx hb dX_look_86 (by decide) ?_
      exact g_iretP X hr hlk hfin dX_look_87
    rw [if_neg hc79] at hfin
    refine lv_iconst (v := (1 : Int32)) hx hb dX_look_82 (by decide) ?_
    refine lv_goto (tgt := 87) hx hb dX_look_83 (by decide) ?_
    exact g_iretP X hr hlk hfin dX_look_87
  rw [if_neg hk1_3] at hfin
  by_cases hk1_4 : a0 = (4 : Int32)
  · rw [if_pos hk1_4] at hfin
    refine lv_tableIn hx hb dX_look_1 (off := 87) (tgt := 88) (by rw [hk1_4]; decide) (by rw [hk1_4]; decide) (by rw [hk1_4]; rfl) (by decide) ?_
    refine lv_aload_n hx hb dX_look_88 rfl (lv_at hl 0 rfl) ?_
    refine xg_steps X hK hP0 dX_look_89 ?_
    exact g_iretP X hr hlk hfin dX_look_92
  rw [if_neg hk1_4] at hfin
  by_cases hk1_5 : a0 = (5 : Int32)
  · rw [if_pos hk1_5] at hfin
    refine lv_tableIn hx hb dX_look_1 (off := 92) (tgt := 93) (by rw [hk1_5]; decide) (by rw [hk1_5]; decide) (by rw [hk1_5]; rfl) (by decide) ?_
    refine lv_aload_n hx hb dX_look_93 rfl (lv_at hl 0 rfl) ?_
    refine xg_traps X hK hP0 dX_look_94 ?_
    exact g_iretP X hr hlk hfin dX_look_97
  rw [if_neg hk1_5] at hfin
  by_cases hk1_6 : a0 = (6 : Int32)
  · rw [if_pos hk1_6] at hfin
    refine lv_tableIn hx hb dX_look_1 (off := 97) (tgt := 98) (by rw [hk1_6]; decide) (by rw [hk1_6]; decide) (by rw [hk1_6]; rfl) (by decide) ?_
    refine lv_aload_n hx hb dX_look_98 rfl (lv_at hl 0 rfl) ?_
    refine xg_latestTrap X hK hP0 dX_look_99 ?_
    exact g_iretP X hr hlk hfin dX_look_102
  rw [if_neg hk1_6] at hfin
  have hn1_0 := i32_ne (0 : Int32) 0 (by decide) hk1_0
  have hn1_1 := i32_ne (1 : Int32) 1 (by decide) hk1_1
  have hn1_2 := i32_ne (2 : Int32) 2 (by decide) hk1_2
  have hn1_3 := i32_ne (3 : Int32) 3 (by decide) hk1_3
  have hn1_4 := i32_ne (4 : Int32) 4 (by decide) hk1_4
  have hn1_5 := i32_ne (5 : Int32) 5 (by decide) hk1_5
  have hn1_6 := i32_ne (6 : Int32) 6 (by decide) hk1_6
  refine lv_tableOut hx hb dX_look_1 (tgt := 103) (by omega) (by decide) ?_
  refine lv_iconst (v := (-1 : Int32)) hx hb dX_look_103 (by decide) ?_
  exact g_iretP X hr hlk hfin dX_look_104
end
