theorem goodIn_r {big : List Cond} (ws : List Cond) (ps : List Nat) (hp : ws = ps.filterMap (fun i => big[i]?)) (h : ws.all goodWord = true) : GoodIn big ws := by
  intro w hw
  have h1 := List.all_eq_true.mp h w hw
  rw [hp] at hw
  obtain ⟨i, -, hi⟩ := List.mem_filterMap.mp hw
  have hm : w ∈ big := by first | exact List.mem_of_getElem? hi | exact List.getElem?_mem hi
  exact ⟨hm, good_of_word h1⟩
set_option maxRecDepth 100000 in
theorem goodTX : GoodIn lw_tbl WX := goodIn_r WX [80, 82, 86, 87, 88, 89, 90, 91, 92, 93, 94, 95, 96, 97, 98, 99, 100, 101, 102, 103, 104, 105, 107, 109, 111, 113, 115, 117, 119, 121, 123, 125, 127, 129, 131, 134, 136, 138, 139, 140, 141, 142, 144, 146, 147, 149, 151, 152, 153, 154, 156, 158, 159, 160, 161, 163, 165, 166, 168, 170, 171, 173, 174, 175, 177, 178, 179, 181, 182, 183, 184, 186, 187, 188, 189, 190, 191, 193, 194, 195, 197, 198, 199, 200, 201, 202, 203, 204, 205, 207, 208, 209, 210, 211, 212, 213, 214, 215, 217, 218, 219, 221, 222, 223, 225, 226, 227, 228, 229, 230, 231, 232, 233, 234, 235, 236, 237, 238, 239, 240, 241, 242, 244, 245, 246, 248, 249, 250, 251, 252, 253, 254, 255, 256, 258, 259, 260, 262, 263, 264, 266, 267, 268, 270, 271, 272, 274, 275, 276, 278, 279, 280, 281, 282, 283, 285, 286, 287, 289, 290, 291, 292, 293, 294, 296, 297, 298, 300, 301, 302, 304, 305, 306, 307, 308, 309, 310, 311, 312, 314, 315, 316, 318, 319, 320, 321, 323, 324, 325, 327, 328, 329, 330, 331, 332, 333, 334, 335, 336, 337, 338, 339, 340, 342, 343, 344, 346, 347, 348, 350, 351, 352, 354, 355, 356, 358, 359, 360, 362, 363, 364, 366, 367, 368, 370, 371, 372, 374, 375, 376, 378, 379, 380, 382, 383, 384, 386, 387, 388, 390, 391, 392, 393, 394, 395, 397, 398, 399, 401, 402, 403, 405, 406, 407, 409, 410, 411, 413, 414, 415, 417, 418, 419, 420, 421, 422, 424, 425, 426, 427, 428, 429, 430, 431, 432, 434, 435, 437, 439, 137, 145, 150, 157, 164, 169, 438, 0, 47, 3, 36, 35, 7, 2, 1, 10, 12, 21, 19, 4, 6, 5, 40, 31, 18, 16, 15, 20, 23, 14, 17, 38, 22, 24, 44, 45, 46, 39, 41, 42, 43, 25, 26, 27, 28, 29, 32, 30, 34, 37, 33, 8, 9, 11, 13] rfl (by decide +kernel)
theorem goodCX {w : Cond} (h : w ∈ WX) : GoodIn lw_tbl (w :: WX) := fun v hv => by
  rcases List.mem_cons.mp hv with rfl | hv
  · exact goodTX _ h
  · exact goodTX _ hv
set_option maxRecDepth 100000 in
theorem goodTM : GoodIn lw_tbl WM := goodIn_r WM [81, 89, 90, 134, 443, 444, 445, 446, 447, 448, 449, 450, 451, 452, 453, 454, 455, 456, 457, 458, 460, 462, 464, 466, 468, 470, 472, 474, 476, 478, 480, 483, 485, 487, 488, 490, 492, 493, 495, 497, 498, 499, 500, 501, 503, 505, 507, 509, 510, 512, 514, 515, 517, 518, 519, 521, 522, 523, 525, 526, 527, 528, 530, 531, 532, 534, 535, 536, 538, 539, 540, 541, 542, 543, 544, 545, 546, 547, 548, 550, 551, 552, 553, 555, 556, 557, 559, 560, 561, 562, 563, 564, 565, 566, 567, 569, 570, 571, 572, 573, 575, 576, 577, 579, 580, 581, 583, 584, 585, 587, 588, 589, 591, 592, 593, 595, 596, 597, 599, 600, 601, 603, 604, 605, 606, 607, 608, 609, 610, 611, 612, 614, 615, 616, 618, 619, 620, 622, 623, 624, 625, 626, 627, 629, 630, 631, 632, 634, 635, 636, 638, 639, 640, 641, 643, 644, 645, 647, 648, 649, 651, 652, 653, 655, 656, 657, 659, 660, 661, 663, 664, 665, 667, 668, 670, 672, 51, 50, 49, 61, 59, 58, 52, 57, 60, 54, 53, 77, 48, 55, 63, 66, 64, 69, 70, 71, 62, 65, 56, 67, 68, 72, 75, 73, 74, 76, 78, 486, 491, 496, 504, 508, 513, 671] rfl (by decide +kernel)
theorem goodCM {w : Cond} (h : w ∈ WM) : GoodIn lw_tbl (w :: WM) := fun v hv => by
  rcases List.mem_cons.mp hv with rfl | hv
  · exact goodTM _ h
  · exact goodTM _ hv
theorem tL_classLink_RL_7_RX : (.classLink RL 7 RX : Cond) ∈ lw_tbl := List.mem_append_right _ (List.mem_of_getElem? (i := 4) (by decide +kernel))
theorem tL_classLink_RL_10_RM : (.classLink RL 10 RM : Cond) ∈ lw_tbl := List.mem_append_right _ (List.mem_of_getElem? (i := 361) (by decide +kernel))
theorem tL_instantiable_RX_14 : (.instantiable RX 14 : Cond) ∈ lw_tbl := List.mem_append_right _ (List.mem_of_getElem? (i := 5) (by decide +kernel))
theorem tL_instantiable_RM_12 : (.instantiable RM 12 : Cond) ∈ lw_tbl := List.mem_append_right _ (List.mem_of_getElem? (i := 362) (by decide +kernel))
theorem hmL_9 : (.methodLink RL 9 yX_init : Cond) ∈ lw_tbl := List.mem_append_right _ (List.mem_of_getElem? (i := 6) (by decide +kernel))
theorem hmL_15 : (.methodLink RL 15 yX_deposit : Cond) ∈ lw_tbl := List.mem_append_right _ (List.mem_of_getElem? (i := 56) (by decide +kernel))
theorem hmL_20 : (.methodLink RL 20 yX_examine : Cond) ∈ lw_tbl := List.mem_append_right _ (List.mem_of_getElem? (i := 64) (by decide +kernel))
theorem hmL_25 : (.methodLink RL 25 yX_number : Cond) ∈ lw_tbl := List.mem_append_right _ (List.mem_of_getElem? (i := 69) (by decide +kernel))
theorem hmL_29 : (.methodLink RL 29 yX_segment : Cond) ∈ lw_tbl := List.mem_append_right _ (List.mem_of_getElem? (i := 76) (by decide +kernel))
theorem hmL_34 : (.methodLink RL 34 yX_start : Cond) ∈ lw_tbl := List.mem_append_right _ (List.mem_of_getElem? (i := 83) (by decide +kernel))
theorem hmL_39 : (.methodLink RL 39 yX_run : Cond) ∈ lw_tbl := List.mem_append_right _ (List.mem_of_getElem? (i := 88) (by decide +kernel))
theorem hmL_44 : (.methodLink RL 44 yX_look : Cond) ∈ lw_tbl := List.mem_append_right _ (List.mem_of_getElem? (i := 357) (by decide +kernel))
theorem hmL_12 : (.methodLink RL 12 yM_init : Cond) ∈ lw_tbl := List.mem_append_right _ (List.mem_of_getElem? (i := 363) (by decide +kernel))
theorem hmL_19 : (.methodLink RL 19 yM_deposit : Cond) ∈ lw_tbl := List.mem_append_right _ (List.mem_of_getElem? (i := 405) (by decide +kernel))
theorem hmL_24 : (.methodLink RL 24 yM_examine : Cond) ∈ lw_tbl := List.mem_append_right _ (List.mem_of_getElem? (i := 410) (by decide +kernel))
theorem hmL_28 : (.methodLink RL 28 yM_number : Cond) ∈ lw_tbl := List.mem_append_right _ (List.mem_of_getElem? (i := 415) (by decide +kernel))
theorem hmL_33 : (.methodLink RL 33 yM_segment : Cond) ∈ lw_tbl := List.mem_append_right _ (List.mem_of_getElem? (i := 423) (by decide +kernel))
theorem hmL_38 : (.methodLink RL 38 yM_start : Cond) ∈ lw_tbl := List.mem_append_right _ (List.mem_of_getElem? (i := 427) (by decide +kernel))
theorem hmL_43 : (.methodLink RL 43 yM_run : Cond) ∈ lw_tbl := List.mem_append_right _ (List.mem_of_getElem? (i := 432) (by decide +kernel))
theorem hmL_47 : (.methodLink RL 47 yM_look : Cond) ∈ lw_tbl := List.mem_append_right _ (List.mem_of_getElem? (i := 590) (by decide +kernel))
theorem hkL_13 : (.constantLong RL 13 4294967295 : Cond) ∈ lw_tbl := List.mem_append_right _ (List.mem_of_getElem? (i := 594) (by decide +kernel))
theorem cwL_X_deposit {R : Room} {s0 : State} {args : Array Value} {rm : Room} (hts : ∀ w ∈ lw_tbl, w.before args s0 = true) (hR : rm.frames + 1 ≤ R.frames ∧ 8 + (4 + 11) + rm.locals ≤ R.locals) (h1 : rm.cells = 0 := by rfl) (h2 : rm.slots = 0 := by rfl) : CallW R s0 args RL RX 15 yX_deposit cX_deposit 4 (some .boolean) wX_deposit rm 0 0 2 := ⟨callB_of 2 hts (goodCX hoX_deposit) rfl h1 h2 (hts _ (goodTX _ hiX).1) (hts _ hmL_15) ⟨by decide +kernel, by decide +kernel, by decide +kernel⟩ hR, hts _ (goodTX _ hnX_deposit).1, hts _ (goodTX _ hvX_deposit).1⟩
theorem cwL_X_examine {R : Room} {s0 : State} {args : Array Value} {rm : Room} (hts : ∀ w ∈ lw_tbl, w.before args s0 = true) (hR : rm.frames + 1 ≤ R.frames ∧ 8 + (2 + 11) + rm.locals ≤ R.locals) (h1 : rm.cells = 0 := by rfl) (h2 : rm.slots = 0 := by rfl) : CallW R s0 args RL RX 20 yX_examine cX_examine 2 (some .long) wX_examine rm 0 0 1 := ⟨callB_of 1 hts (goodCX hoX_examine) rfl h1 h2 (hts _ (goodTX _ hiX).1) (hts _ hmL_20) ⟨by decide +kernel, by decide +kernel, by decide +kernel⟩ hR, hts _ (goodTX _ hnX_examine).1, hts _ (goodTX _ hvX_examine).1⟩
theorem cwL_X_number {R : Room} {s0 : State} {args : Array Value} {rm : Room} (hts : ∀ w ∈ lw_tbl, w.before args s0 = true) (hR : rm.frames + 1 ≤ R.frames ∧ 8 + (2 + 11) + rm.locals ≤ R.locals) (h1 : rm.cells = 0 := by rfl) (h2 : rm.slots = 0 := by rfl) : CallW R s0 args RL RX 25 yX_number cX_number 2 (some .long) wX_number rm 0 0 1 := ⟨callB_of 1 hts (goodCX hoX_number) rfl h1 h2 (hts _ (goodTX _ hiX).1) (hts _ hmL_25) ⟨by decide +kernel, by decide +kernel, by decide +kernel⟩ hR, hts _ (goodTX _ hnX_number).1, hts _ (goodTX _ hvX_number).1⟩
theorem cwL_X_segment {R : Room} {s0 : State} {args : Array Value} {rm : Room} (hts : ∀ w ∈ lw_tbl, w.before args s0 = true) (hR : rm.frames + 1 ≤ R.frames ∧ 8 + (4 + 11) + rm.locals ≤ R.locals) (h1 : rm.cells = 0 := by rfl) (h2 : rm.slots = 0 := by rfl) : CallW R s0 args RL RX 29 yX_segment cX_segment 4 (some .boolean) wX_segment rm 0 0 3 := ⟨callB_of 3 hts (goodCX hoX_segment) rfl h1 h2 (hts _ (goodTX _ hiX).1) (hts _ hmL_29) ⟨by decide +kernel, by decide +kernel, by decide +kernel⟩ hR, hts _ (goodTX _ hnX_segment).1, hts _ (goodTX _ hvX_segment).1⟩
theorem cwL_X_start {R : Room} {s0 : State} {args : Array Value} {rm : Room} (hts : ∀ w ∈ lw_tbl, w.before args s0 = true) (hR : rm.frames + 1 ≤ R.frames ∧ 8 + (3 + 11) + rm.locals ≤ R.locals) (h1 : rm.cells = 0 := by rfl) (h2 : rm.slots = 0 := by rfl) : CallW R s0 args RL RX 34 yX_start cX_start 3 none wX_start rm 0 0 2 := ⟨callB_of 2 hts (goodCX hoX_start) rfl h1 h2 (hts _ (goodTX _ hiX).1) (hts _ hmL_34) ⟨by decide +kernel, by decide +kernel, by decide +kernel⟩ hR, hts _ (goodTX _ hnX_start).1, hts _ (goodTX _ hvX_start).1⟩
theorem cwL_X_run {R : Room} {s0 : State} {args : Array Value} {rm : Room} (hts : ∀ w ∈ lw_tbl, w.before args s0 = true) (hR : rm.frames + 1 ≤ R.frames ∧ 8 + (3 + 11) + rm.locals ≤ R.locals) (h1 : rm.cells = 0 := by rfl) (h2 : rm.slots = 0 := by rfl) : CallW R s0 args RL RX 39 yX_run cX_run 3 (some .int) wX_run rm 0 0 1 := ⟨callB_of 1 hts (goodCX hoX_run) rfl h1 h2 (hts _ (goodTX _ hiX).1) (hts _ hmL_39) ⟨by decide +kernel, by decide +kernel, by decide +kernel⟩ hR, hts _ (goodTX _ hnX_run).1, hts _ (goodTX _ hvX_run).1⟩
theorem cwL_X_look {R : Room} {s0 : State} {args : Array Value} {rm : Room} (hts : ∀ w ∈ lw_tbl, w.before args s0 = true) (hR : rm.frames + 1 ≤ R.frames ∧ 8 + (2 + 11) + rm.locals ≤ R.locals) (h1 : rm.cells = 0 := by rfl) (h2 : rm.slots = 0 := by rfl) : CallW R s0 args RL RX 44 yX_look cX_look 2 (some .int) wX_look rm 0 0 1 := ⟨callB_of 1 hts (goodCX hoX_look) rfl h1 h2 (hts _ (goodTX _ hiX).1) (hts _ hmL_44) ⟨by decide +kernel, by decide +kernel, by decide +kernel⟩ hR, hts _ (goodTX _ hnX_look).1, hts _ (goodTX _ hvX_look).1⟩
theorem cwL_M_deposit {R : Room} {s0 : State} {args : Array Value} {rm : Room} (hts : ∀ w ∈ lw_tbl, w.before args s0 = true) (hR : rm.frames + 1 ≤ R.frames ∧ 8 + (4 + 11) + rm.locals ≤ R.locals) (h1 : rm.cells = 0 := by rfl) (h2 : rm.slots = 0 := by rfl) : CallW R s0 args RL RM 19 yM_deposit cM_deposit 4 (some .boolean) wM_deposit rm 0 0 2 := ⟨callB_of 2 hts (goodCM hoM_deposit) rfl h1 h2 (hts _ (goodTM _ hiM).1) (hts _ hmL_19) ⟨by decide +kernel, by decide +kernel, by decide +kernel⟩ hR, hts _ (goodTM _ hnM_deposit).1, hts _ (goodTM _ hvM_deposit).1⟩
theorem cwL_M_examine {R : Room} {s0 : State} {args : Array Value} {rm : Room} (hts : ∀ w ∈ lw_tbl, w.before args s0 = true) (hR : rm.frames + 1 ≤ R.frames ∧ 8 + (2 + 11) + rm.locals ≤ R.locals) (h1 : rm.cells = 0 := by rfl) (h2 : rm.slots = 0 := by rfl) : CallW R s0 args RL RM 24 yM_examine cM_examine 2 (some .long) wM_examine rm 0 0 1 := ⟨callB_of 1 hts (goodCM hoM_examine) rfl h1 h2 (hts _ (goodTM _ hiM).1) (hts _ hmL_24) ⟨by decide +kernel, by decide +kernel, by decide +kernel⟩ hR, hts _ (goodTM _ hnM_examine).1, hts _ (goodTM _ hvM_examine).1⟩
theorem cwL_M_number {R : Room} {s0 : State} {args : Array Value} {rm : Room} (hts : ∀ w ∈ lw_tbl, w.before args s0 = true) (hR : rm.frames + 1 ≤ R.frames ∧ 8 + (2 + 11) + rm.locals ≤ R.locals) (h1 : rm.cells = 0 := by rfl) (h2 : rm.slots = 0 := by rfl) : CallW R s0 args RL RM 28 yM_number cM_number 2 (some .long) wM_number rm 0 0 1 := ⟨callB_of 1 hts (goodCM hoM_number) rfl h1 h2 (hts _ (goodTM _ hiM).1) (hts _ hmL_28) ⟨by decide +kernel, by decide +kernel, by decide +kernel⟩ hR, hts _ (goodTM _ hnM_number).1, hts _ (goodTM _ hvM_number).1⟩
theorem cwL_M_segment {R : Room} {s0 : State} {args : Array Value} {rm : Room} (hts : ∀ w ∈ lw_tbl, w.before args s0 = true) (hR : rm.frames + 1 ≤ R.frames ∧ 8 + (4 + 11) + rm.locals ≤ R.locals) (h1 : rm.cells = 0 := by rfl) (h2 : rm.slots = 0 := by rfl) : CallW R s0 args RL RM 33 yM_segment cM_segment 4 (some .boolean) wM_segment rm 0 0 3 := ⟨callB_of 3 hts (goodCM hoM_segment) rfl h1 h2 (hts _ (goodTM _ hiM).1) (hts _ hmL_33) ⟨by decide +kernel, by decide +kernel, by decide +kernel⟩ hR, hts _ (goodTM _ hnM_segment).1, hts _ (goodTM _ hvM_segment).1⟩
theorem cwL_M_start {R : Room} {s0 : State} {args : Array Value} {rm : Room} (hts : ∀ w ∈ lw_tbl, w.before args s0 = true) (hR : rm.frames + 1 ≤ R.frames ∧ 8 + (3 + 11) + rm.locals ≤ R.locals) (h1 : rm.cells = 0 := by rfl) (h2 : rm.slots = 0 := by rfl) : CallW R s0 args RL RM 38 yM_start cM_start 3 none wM_start rm 0 0 2 := ⟨callB_of 2 hts (goodCM hoM_start) rfl h1 h2 (hts _ (goodTM _ hiM).1) (hts _ hmL_38) ⟨by decide +kernel, by decide +kernel, by decide +kernel⟩ hR, hts _ (goodTM _ hnM_start).1, hts _ (goodTM _ hvM_start).1⟩
theorem cwL_M_run {R : Room} {s0 : State} {args : Array Value} {rm : Room} (hts : ∀ w ∈ lw_tbl, w.before args s0 = true) (hR : rm.frames + 1 ≤ R.frames ∧ 8 + (3 + 11) + rm.locals ≤ R.locals) (h1 : rm.cells = 0 := by rfl) (h2 : rm.slots = 0 := by rfl) : CallW R s0 args RL RM 43 yM_run cM_run 3 (some .int) wM_run rm 0 0 1 := ⟨callB_of 1 hts (goodCM hoM_run) rfl h1 h2 (hts _ (goodTM _ hiM).1) (hts _ hmL_43) ⟨by decide +kernel, by decide +kernel, by decide +kernel⟩ hR, hts _ (goodTM _ hnM_run).1, hts _ (goodTM _ hvM_run).1⟩
theorem cwL_M_look {R : Room} {s0 : State} {args : Array Value} {rm : Room} (hts : ∀ w ∈ lw_tbl, w.before args s0 = true) (hR : rm.frames + 1 ≤ R.frames ∧ 8 + (2 + 11) + rm.locals ≤ R.locals) (h1 : rm.cells = 0 := by rfl) (h2 : rm.slots = 0 := by rfl) : CallW R s0 args RL RM 47 yM_look cM_look 2 (some .int) wM_look rm 0 0 1 := ⟨callB_of 1 hts (goodCM hoM_look) rfl h1 h2 (hts _ (goodTM _ hiM).1) (hts _ hmL_47) ⟨by decide +kernel, by decide +kernel, by decide +kernel⟩ hR, hts _ (goodTM _ hnM_look).1, hts _ (goodTM _ hvM_look).1⟩

theorem va_D_apart {A : Nat → Prop} {w1 w2 : va_W} (h : va_D A (w1 ++ w2)) {x y : Nat × va_E} (hx : x ∈ w1) (hy : y ∈ w2) : x.1 ≠ y.1 := by
  obtain ⟨i, hi⟩ := List.getElem?_of_mem hx
  obtain ⟨j, hj⟩ := List.getElem?_of_mem hy
  intro e
  have hil : i < w1.length := (List.getElem?_eq_some_iff.mp hi).1
  have := h.1 i (w1.length + j) x y (by rw [List.getElem?_append_left hil]; exact hi) (by rw [List.getElem?_append_right (by omega)]; rw [show w1.length + j - w1.length = j by omega]; exact hj) e
  omega
theorem va_D_same {A : Nat → Prop} {w1 w2 : va_W} (h : va_D A w1) (e : w1.map (fun x => x.1) = w2.map (fun x => x.1)) : va_D A w2 := by
  have key : ∀ (k : Nat) (x : Nat × va_E), w2[k]? = some x → ∃ y, w1[k]? = some y ∧ y.1 = x.1 := by
    intro k x hx
    have h1 : (w1.map (fun x => x.1))[k]? = some x.1 := by rw [e, List.getElem?_map, hx]; rfl
    rw [List.getElem?_map] at h1
    cases hy : w1[k]? with
    | none => rw [hy] at h1; cases h1
    | some y => rw [hy] at h1; exact ⟨y, rfl, Option.some.inj h1⟩
  refine ⟨fun i j p q hi hj hpq => ?_, fun k q hk => ?_⟩
  · obtain ⟨p', h1, h2⟩ := key i p hi
    obtain ⟨q', h3, h4⟩ := key j q hj
    exact h.1 i j p' q' h1 h3 (h2.trans (hpq.trans h4.symm))
  · obtain ⟨q', h1, h2⟩ := key k q hk
    rw [← h2]; exact h.2 k q' h1
/-- two objects side by side: the first one's cells, then the second one's -/
def LI {S T : Type} (D : va_G) (wa : S → va_W) (wb : T → va_W) (A : Nat → Prop) (H0 H : Heap) (locs : List Loc) (u : S) (v : T) : Prop := va_P D vwCl (wa u ++ wb v) H ∧ va_D A (wa u ++ wb v) ∧ va_S A H0 H locs
theorem va_P_left {D : va_G} {cl : List vw_C} {w1 w2 : va_W} {H : Heap} (h : va_P D cl (w1 ++ w2) H) : va_P D cl w1 H := fun k q hk => h k q (by rw [List.getElem?_append_left ((List.getElem?_eq_some_iff.mp hk).1)]; exact hk)
theorem va_P_right {D : va_G} {cl : List vw_C} {w1 w2 : va_W} {H : Heap} (h : va_P D cl (w1 ++ w2) H) : va_P D cl w2 H := fun k q hk => h (w1.length + k) q (by rw [List.getElem?_append_right (by omega), show w1.length + k - w1.length = k by omega]; exact hk)
theorem LI.left {S T : Type} {D : va_G} {wa : S → va_W} {wb : T → va_W} {A A1 : Nat → Prop} {H0 H H1 : Heap} {locs locs1 : List Loc} {u u' : S} {v : T} (h : LI D wa wb A H0 H locs u v) (hA1 : ∀ a, A1 a → a ∈ (wa u).map (fun x => x.1)) (he : (wa u).map (fun x => x.1) = (wa u').map (fun x => x.1)) (hP : va_P D vwCl (wa u') H1) (hk : ∀ q : Nat, q < H.size → ¬ A1 q → H1[q]? = H[q]?) (hS : va_S A H0 H1 locs1) : LI D wa wb A H0 H1 locs1 u' v := by
  refine ⟨va_P.app hP ((va_P_right h.1).kept fun k q hq => hk q.1 ((va_P_right h.1) k q hq).lt (fun z => ?_)), va_D_same h.2.1 (by rw [List.map_append, List.map_append, he]), hS⟩
  obtain ⟨x, hx, e⟩ := List.mem_map.mp (hA1 _ z)
  exact va_D_apart h.2.1 hx (List.mem_of_getElem? hq) e
theorem LI.right {S T : Type} {D : va_G} {wa : S → va_W} {wb : T → va_W} {A A1 : Nat → Prop} {H0 H H1 : Heap} {locs locs1 : List Loc} {u : S} {v v' : T} (h : LI D wa wb A H0 H locs u v) (hA1 : ∀ a, A1 a → a ∈ (wb v).map (fun x => x.1)) (he : (wb v).map (fun x => x.1) = (wb v').map (fun x => x.1)) (hP : va_P D vwCl (wb v') H1) (hk : ∀ q : Nat, q < H.size → ¬ A1 q → H1[q]? = H[q]?) (hS : va_S A H0 H1 locs1) : LI D wa wb A H0 H1 locs1 u v' := by
  refine ⟨va_P.app ((va_P_left h.1).kept fun k q hq => hk q.1 ((va_P_left h.1) k q hq).lt (fun z => ?_)) hP, va_D_same h.2.1 (by rw [List.map_append, List.map_append, he]), hS⟩
  obtain ⟨x, hx, e⟩ := List.mem_map.mp (hA1 _ z)
  exact va_D_apart h.2.1 (List.mem_of_getElem? hq) hx e.symm
theorem LI.inA {S T : Type} {D : va_G} {wa : S → va_W} {wb : T → va_W} {A : Nat → Prop} {H0 H : Heap} {locs : List Loc} {u : S} {v : T} (h : LI D wa wb A H0 H locs u v) {a : Nat} (ha : a ∈ (wa u).map (fun x => x.1) ∨ a ∈ (wb v).map (fun x => x.1)) : A a := by
  have : a ∈ (wa u ++ wb v).map (fun x => x.1) := by rw [List.map_append]; exact List.mem_append.mpr ha
  obtain ⟨x, hx, e⟩ := List.mem_map.mp this
  obtain ⟨k, hk⟩ := List.getElem?_of_mem hx
  rw [← e]; exact h.2.1.2 k x hk
section LC
variable {p : Program} {l : Launch} {e : Env} {R : Room} {s0 : State} {m : MethodId} {args : Array Value} {below : List Frame} {meth : Method} {c : Code} {H : Heap} {locs : List Loc} {Q : State → Prop} {pc cells slots : Nat} {ls : Array Slot} {st0 : List Value} {cc : ByteArray} {nL : Nat} {Ts : List Cond} {own : String}
variable {S T : Type} {D : va_G} {tys : List (ClassId × FieldType)} {wa : S → va_W} {wb : T → va_W} {A A1 : Nat → Prop} {u : S} {v : T}
variable {y : MethodName} {bytes : ByteArray} {maxL index n : Nat} {ret : Option FieldType} {ws : List Cond} {rm : Room} {C : String} {b : Nat}

theorem lc_left_i (As rest : List Value) {z : Int32 × S} (X : CallFix p m c cc nL s0 args Ts own) (hK : va_K D vwCl tys s0) (hv : g_rcv D tys wa s0 C b) (hA1 : ∀ x a, A1 a ↔ a ∈ (wa x).map (fun x => x.1)) (hmap : ∀ x, (wa u).map (fun x => x.1) = (wa x).map (fun x => x.1)) (hI : LI D wa wb A s0.heap H locs u v) (hM : gMi l y ws rm D tys wa A1 (.ref b :: As) u z) (cw : CallW R s0 args own C index y bytes maxL ret ws rm 0 0 n) (hn : As.length = n) (hsz : ls.size = nL) (hst : st0 = As.reverse ++ .ref b :: rest) (hW : (rest.map fun v => v.category).sum ≤ 8) (d : decode cc pc = .ok (.invokevirtual index, 3)) (hf : cells ≤ R.cells ∧ slots ≤ R.slots)
    (kk : ∀ (H : Heap) (locs : List Loc), LI D wa wb A s0.heap H locs z.2 v → W p l e R s0 m args below meth c H locs cells slots Q (F0 m (pc + 3) ls (.int z.1 :: rest))) : W p l e R s0 m args below meth c H locs cells slots Q (F0 m pc ls st0) := by
  have hP : va_P D vwCl (wa u) H := va_P_left hI.1
  have hA : ∀ q, A1 q → A q := fun q h => hI.inA (Or.inl ((hA1 u q).mp h))
  refine va_calli (va_runV (As := As) (rest := rest) (g := F0 m pc ls st0) X hM cw ⟨g_blind D tys wa _ u, hv u H hK hP, fun U hU hW => ⟨rfl, by rw [hU]; exact hP, va_K.moved hW.alike hK⟩⟩ rfl hn hsz hst (lv_room (pc := pc) (ls := ls) (rest := st0) hW) d hf) hI.2.2 (fun q _ h => hA q h) hA (fun r x t H1 locs1 ht hvm hp hB hz1 hk1 hS => ?_)
  subst hp
  exact kk H1 locs1 (hI.left (fun a h => (hA1 _ a).mp h) (hmap _) (by rw [← ht]; exact hB.1) hk1 hS)
theorem lc_left_l (As rest : List Value) {z : Int64 × S} (X : CallFix p m c cc nL s0 args Ts own) (hK : va_K D vwCl tys s0) (hv : g_rcv D tys wa s0 C b) (hA1 : ∀ x a, A1 a ↔ a ∈ (wa x).map (fun x => x.1)) (hmap : ∀ x, (wa u).map (fun x => x.1) = (wa x).map (fun x => x.1)) (hI : LI D wa wb A s0.heap H locs u v) (hM : gMl l y ws rm D tys wa A1 (.ref b :: As) u z) (cw : CallW R s0 args own C index y bytes maxL ret ws rm 0 0 n) (hn : As.length = n) (hsz : ls.size = nL) (hst : st0 = As.reverse ++ .ref b :: rest) (hW : (rest.map fun v => v.category).sum ≤ 8) (d : decode cc pc = .ok (.invokevirtual index, 3)) (hf : cells ≤ R.cells ∧ slots ≤ R.slots)
    (kk : ∀ (H : Heap) (locs : List Loc), LI D wa wb A s0.heap H locs z.2 v → W p l e R s0 m args below meth c H locs cells slots Q (F0 m (pc + 3) ls (.long z.1 :: rest))) : W p l e R s0 m args below meth c H locs cells slots Q (F0 m pc ls st0) := by
  have hP : va_P D vwCl (wa u) H := va_P_left hI.1
  have hA : ∀ q, A1 q → A q := fun q h => hI.inA (Or.inl ((hA1 u q).mp h))
  refine va_calll (va_runV (As := As) (rest := rest) (g := F0 m pc ls st0) X hM cw ⟨g_blind D tys wa _ u, hv u H hK hP, fun U hU hW => ⟨rfl, by rw [hU]; exact hP, va_K.moved hW.alike hK⟩⟩ rfl hn hsz hst (lv_room (pc := pc) (ls := ls) (rest := st0) hW) d hf) hI.2.2 (fun q _ h => hA q h) hA (fun r x t H1 locs1 ht hvm hp hB hz1 hk1 hS => ?_)
  subst hp
  exact kk H1 locs1 (hI.left (fun a h => (hA1 _ a).mp h) (hmap _) (by rw [← ht]; exact hB.1) hk1 hS)
theorem lc_left_v (As rest : List Value) {z : S} (X : CallFix p m c cc nL s0 args Ts own) (hK : va_K D vwCl tys s0) (hv : g_rcv D tys wa s0 C b) (hA1 : ∀ x a, A1 a ↔ a ∈ (wa x).map (fun x => x.1)) (hmap : ∀ x, (wa u).map (fun x => x.1) = (wa x).map (fun x => x.1)) (hI : LI D wa wb A s0.heap H locs u v) (hM : gMv l y ws rm D tys wa A1 (.ref b :: As) u z) (cw : CallW R s0 args own C index y bytes maxL ret ws rm 0 0 n) (hn : As.length = n) (hsz : ls.size = nL) (hst : st0 = As.reverse ++ .ref b :: rest) (hW : (rest.map fun v => v.category).sum ≤ 8) (d : decode cc pc = .ok (.invokevirtual index, 3)) (hf : cells ≤ R.cells ∧ slots ≤ R.slots)
    (kk : ∀ (H : Heap) (locs : List Loc), LI D wa wb A s0.heap H locs z v → W p l e R s0 m args below meth c H locs cells slots Q (F0 m (pc + 3) ls rest)) : W p l e R s0 m args below meth c H locs cells slots Q (F0 m pc ls st0) := by
  have hP : va_P D vwCl (wa u) H := va_P_left hI.1
  have hA : ∀ q, A1 q → A q := fun q h => hI.inA (Or.inl ((hA1 u q).mp h))
  refine va_callv (va_runV (As := As) (rest := rest) (g := F0 m pc ls st0) X hM cw ⟨g_blind D tys wa _ u, hv u H hK hP, fun U hU hW => ⟨rfl, by rw [hU]; exact hP, va_K.moved hW.alike hK⟩⟩ rfl hn hsz hst (lv_room (pc := pc) (ls := ls) (rest := st0) hW) d hf) hI.2.2 (fun q _ h => hA q h) hA (fun x t H1 locs1 ht hvm hp hB hz1 hk1 hS => ?_)
  subst hp
  exact kk H1 locs1 (hI.left (fun a h => (hA1 _ a).mp h) (hmap _) (by rw [← ht]; exact hB.1) hk1 hS)
theorem lc_right_i (As rest : List Value) {z : Int32 × T} (X : CallFix p m c cc nL s0 args Ts own) (hK : va_K D vwCl tys s0) (hv : g_rcv D tys wb s0 C b) (hA1 : ∀ x a, A1 a ↔ a ∈ (wb x).map (fun x => x.1)) (hmap : ∀ x, (wb v).map (fun x => x.1) = (wb x).map (fun x => x.1)) (hI : LI D wa wb A s0.heap H locs u v) (hM : gMi l y ws rm D tys wb A1 (.ref b :: As) v z) (cw : CallW R s0 args own C index y bytes maxL ret ws rm 0 0 n) (hn : As.length = n) (hsz : ls.size = nL) (hst : st0 = As.reverse ++ .ref b :: rest) (hW : (rest.map fun v => v.category).sum ≤ 8) (d : decode cc pc = .ok (.invokevirtual index, 3)) (hf : cells ≤ R.cells ∧ slots ≤ R.slots)
    (kk : ∀ (H : Heap) (locs : List Loc), LI D wa wb A s0.heap H locs u z.2 → W p l e R s0 m args below meth c H locs cells slots Q (F0 m (pc + 3) ls (.int z.1 :: rest))) : W p l e R s0 m args below meth c H locs cells slots Q (F0 m pc ls st0) := by
  have hP : va_P D vwCl (wb v) H := va_P_right hI.1
  have hA : ∀ q, A1 q → A q := fun q h => hI.inA (Or.inr ((hA1 v q).mp h))
  refine va_calli (va_runV (As := As) (rest := rest) (g := F0 m pc ls st0) X hM cw ⟨g_blind D tys wb _ v, hv v H hK hP, fun U hU hW => ⟨rfl, by rw [hU]; exact hP, va_K.moved hW.alike hK⟩⟩ rfl hn hsz hst (lv_room (pc := pc) (ls := ls) (rest := st0) hW) d hf) hI.2.2 (fun q _ h => hA q h) hA (fun r x t H1 locs1 ht hvm hp hB hz1 hk1 hS => ?_)
  subst hp
  exact kk H1 locs1 (hI.right (fun a h => (hA1 _ a).mp h) (hmap _) (by rw [← ht]; exact hB.1) hk1 hS)
theorem lc_right_l (As rest : List Value) {z : Int64 × T} (X : CallFix p m c cc nL s0 args Ts own) (hK : va_K D vwCl tys s0) (hv : g_rcv D tys wb s0 C b) (hA1 : ∀ x a, A1 a ↔ a ∈ (wb x).map (fun x => x.1)) (hmap : ∀ x, (wb v).map (fun x => x.1) = (wb x).map (fun x => x.1)) (hI : LI D wa wb A s0.heap H locs u v) (hM : gMl l y ws rm D tys wb A1 (.ref b :: As) v z) (cw : CallW R s0 args own C index y bytes maxL ret ws rm 0 0 n) (hn : As.length = n) (hsz : ls.size = nL) (hst : st0 = As.reverse ++ .ref b :: rest) (hW : (rest.map fun v => v.category).sum ≤ 8) (d : decode cc pc = .ok (.invokevirtual index, 3)) (hf : cells ≤ R.cells ∧ slots ≤ R.slots)
    (kk : ∀ (H : Heap) (locs : List Loc), LI D wa wb A s0.heap H locs u z.2 → W p l e R s0 m args below meth c H locs cells slots Q (F0 m (pc + 3) ls (.long z.1 :: rest))) : W p l e R s0 m args below meth c H locs cells slots Q (F0 m pc ls st0) := by
  have hP : va_P D vwCl (wb v) H := va_P_right hI.1
  have hA : ∀ q, A1 q → A q := fun q h => hI.inA (Or.inr ((hA1 v q).mp h))
  refine va_calll (va_runV (As := As) (rest := rest) (g := F0 m pc ls st0) X hM cw ⟨g_blind D tys wb _ v, hv v H hK hP, fun U hU hW => ⟨rfl, by rw [hU]; exact hP, va_K.moved hW.alike hK⟩⟩ rfl hn hsz hst (lv_room (pc := pc) (ls := ls) (rest := st0) hW) d hf) hI.2.2 (fun q _ h => hA q h) hA (fun r x t H1 locs1 ht hvm hp hB hz1 hk1 hS => ?_)
  subst hp
  exact kk H1 locs1 (hI.right (fun a h => (hA1 _ a).mp h) (hmap _) (by rw [← ht]; exact hB.1) hk1 hS)
theorem lc_right_v (As rest : List Value) {z : T} (X : CallFix p m c cc nL s0 args Ts own) (hK : va_K D vwCl tys s0) (hv : g_rcv D tys wb s0 C b) (hA1 : ∀ x a, A1 a ↔ a ∈ (wb x).map (fun x => x.1)) (hmap : ∀ x, (wb v).map (fun x => x.1) = (wb x).map (fun x => x.1)) (hI : LI D wa wb A s0.heap H locs u v) (hM : gMv l y ws rm D tys wb A1 (.ref b :: As) v z) (cw : CallW R s0 args own C index y bytes maxL ret ws rm 0 0 n) (hn : As.length = n) (hsz : ls.size = nL) (hst : st0 = As.reverse ++ .ref b :: rest) (hW : (rest.map fun v => v.category).sum ≤ 8) (d : decode cc pc = .ok (.invokevirtual index, 3)) (hf : cells ≤ R.cells ∧ slots ≤ R.slots)
    (kk : ∀ (H : Heap) (locs : List Loc), LI D wa wb A s0.heap H locs u z → W p l e R s0 m args below meth c H locs cells slots Q (F0 m (pc + 3) ls rest)) : W p l e R s0 m args below meth c H locs cells slots Q (F0 m pc ls st0) := by
  have hP : va_P D vwCl (wb v) H := va_P_right hI.1
  have hA : ∀ q, A1 q → A q := fun q h => hI.inA (Or.inr ((hA1 v q).mp h))
  refine va_callv (va_runV (As := As) (rest := rest) (g := F0 m pc ls st0) X hM cw ⟨g_blind D tys wb _ v, hv v H hK hP, fun U hU hW => ⟨rfl, by rw [hU]; exact hP, va_K.moved hW.alike hK⟩⟩ rfl hn hsz hst (lv_room (pc := pc) (ls := ls) (rest := st0) hW) d hf) hI.2.2 (fun q _ h => hA q h) hA (fun x t H1 locs1 ht hvm hp hB hz1 hk1 hS => ?_)
  subst hp
  exact kk H1 locs1 (hI.right (fun a h => (hA1 _ a).mp h) (hmap _) (by rw [← ht]; exact hB.1) hk1 hS)
end LC
