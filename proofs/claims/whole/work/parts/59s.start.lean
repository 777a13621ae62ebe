def R_law : String := "GoatCourtLaw"
def lw_P (b : Addr) (xs : List Int32) (args : Array Value) (s : State) : Prop := args = #[.ref b] ∧ s.IntsAt b xs ∧ xs.length ≤ 3072 ∧ (Jvm.Cond.and given_1 narrow_1).before args s = true
def lw_Q (_ : Array Value) (s : State) (o : Outcome) (t : State) : Prop := o = .returned (some (.int 1)) ∧ Framed s o t [] 601024 7293034
def lw_Z (below : List Frame) (a : Array Value) (s : State) : State → Prop := fun t => ∃ o, t.status = .running ∧ Ended t below o ∧ lw_Q a s o t
/-- the law's own end, with 1 on the stack, nothing written that was there before, its room as the claim has it -/
theorem lw_ret {p : Program} {l : Launch} {e : Env} {s : State} {m : MethodId} {below : List Frame} {meth : Method} {c : Code} {b : Nat} (hx : p.tables.exec = Jvm.exec) (hb : c.code = code) (hr : meth.sig.returnType = ret) (hlocks : meth.locks = false) {pc : Nat} {H : Heap} {ls : Array Slot} (hdg : decode code pc = .ok (.ireturn, 1)) : W p l e room_1 s m #[Value.ref b] below meth c H [] 601024 7293034 (lw_Z below #[Value.ref b] s) (F0 m pc ls [.int 1]) := by
  intro T hT X
  obtain ⟨fs, hret, hrun, hended, hW, hframe⟩ := X.leave (v := some (.int 1)) (hlocks := hlocks) (fun h => by rw [hr] at h; cases h)
  have hmeth' : T.vm.method? m = some meth := X.method'
  refine ⟨T.setFrames fs, ?_, .returned (some (.int 1)), hrun, hended, rfl, ⟨_, rfl⟩, hW, hframe⟩
  jvm_step X.here [X.here.top, hx, hb, hdg, hmeth', hr, ret, narrow_b1]
  (try refine ⟨rfl, ?_⟩); (try refine ⟨rfl, ?_⟩)
  first | (intro acts; rw [hret _ acts rfl rfl rfl]) | rw [hret _ _ rfl rfl rfl]
  exact Steps.refl _
/-- what holds at the law's entry: the machine, the code, the tables' words (any of lw_tbl by 'hts w (by decide +kernel)'), the script of L ints xs at the cell b, what the Statement gives of the start (any of its parts by flat_of_before) -/
def lw_At (p : Program) (s : State) (m : MethodId) (meth : Method) (c : Code) (b L : Nat) (xs : Nat → Int32) : Prop :=
  p.tables.exec = Jvm.exec ∧ c.code = code ∧ meth.sig.returnType = ret ∧ c.maxLocals = 7 ∧ s.vm.findClass R_law = some m.cls ∧ (∀ w ∈ lw_tbl, w.before #[Value.ref b] s = true) ∧ va_X b L xs s s.heap ∧ b < s.heap.size ∧ meth.locks = false ∧ (Jvm.Cond.and given_1 narrow_1).before #[Value.ref b] s = true

def goNar : List Cond := flatC (Jvm.Cond.and given_1 narrow_1)
theorem gnEx : ∀ i, i < 18 → goNar[([37, 66, 73, 81, 90, 100, 111, 123, 136, 150, 165, 181, 198, 216, 235, 255, 276, 32] : List Nat).getD i 0]? = some (Cond.exactly (.static "GoatCourt$Reserved" (goEnm.getD i "") "LGoatCourt$Reserved;") "GoatCourt$Reserved") := by decide +kernel
theorem gnGr : ∀ i, i < 18 → goNar[([40, 69, 76, 84, 93, 103, 114, 126, 139, 153, 168, 184, 201, 219, 238, 258, 279, 35] : List Nat).getD i 0]? = some (Cond.eq (.field (.static "GoatCourt$Reserved" (goEnm.getD i "") "LGoatCourt$Reserved;") "GoatCourt$Reserved" "group" "I") (.int (goEgl.getD i 0))) := by decide +kernel
theorem gnRo : ∀ i, i < 18 → goNar[([41, 70, 77, 85, 94, 104, 115, 127, 140, 154, 169, 185, 202, 220, 239, 259, 280, 36] : List Nat).getD i 0]? = some (Cond.eq (.field (.static "GoatCourt$Reserved" (goEnm.getD i "") "LGoatCourt$Reserved;") "GoatCourt$Reserved" "room" "I") (.int (goErl.getD i 0))) := by decide +kernel
theorem gnOr : ∀ i, i < 18 → goNar[([38, 67, 74, 82, 91, 101, 112, 124, 137, 151, 166, 182, 199, 217, 236, 256, 277, 33] : List Nat).getD i 0]? = some (Cond.eq (.field (.static "GoatCourt$Reserved" (goEnm.getD i "") "LGoatCourt$Reserved;") "java/lang/Enum" "ordinal" "I") (.int (Int32.ofNat i))) := by decide +kernel
theorem gnWo : ∀ i, i < 18 → goNar[([39, 68, 75, 83, 92, 102, 113, 125, 138, 152, 167, 183, 200, 218, 237, 257, 278, 34] : List Nat).getD i 0]? = some (Cond.eq (.field (.static "GoatCourt$Reserved" (goEnm.getD i "") "LGoatCourt$Reserved;") "GoatCourt$Reserved" "word" "Ljava/lang/String;") (.string (goSck.getD (goEwl.getD i 0 - 1000100) ("", 0, "")).1 (goSck.getD (goEwl.getD i 0 - 1000100) ("", 0, "")).2.1)) := by decide +kernel
def gnNl : List Nat := [0, 72, 79, 87, 96, 106, 117, 129, 142, 156, 171, 187, 204, 222, 241, 261, 282, 42, 72, 0, 80, 88, 97, 107, 118, 130, 143, 157, 172, 188, 205, 223, 242, 262, 283, 71, 79, 80, 0, 89, 98, 108, 119, 131, 144, 158, 173, 189, 206, 224, 243, 263, 284, 78, 87, 88, 89, 0, 99, 109, 120, 132, 145, 159, 174, 190, 207, 225, 244, 264, 285, 86, 96, 97, 98, 99, 0, 110, 121, 133, 146, 160, 175, 191, 208, 226, 245, 265, 286, 95, 106, 107, 108, 109, 110, 0, 122, 134, 147, 161, 176, 192, 209, 227, 246, 266, 287, 105, 117, 118, 119, 120, 121, 122, 0, 135, 148, 162, 177, 193, 210, 228, 247, 267, 288, 116, 129, 130, 131, 132, 133, 134, 135, 0, 149, 163, 178, 194, 211, 229, 248, 268, 289, 128, 142, 143, 144, 145, 146, 147, 148, 149, 0, 164, 179, 195, 212, 230, 249, 269, 290, 141, 156, 157, 158, 159, 160, 161, 162, 163, 164, 0, 180, 196, 213, 231, 250, 270, 291, 155, 171, 172, 173, 174, 175, 176, 177, 178, 179, 180, 0, 197, 214, 232, 251, 271, 292, 170, 187, 188, 189, 190, 191, 192, 193, 194, 195, 196, 197, 0, 215, 233, 252, 272, 293, 186, 204, 205, 206, 207, 208, 209, 210, 211, 212, 213, 214, 215, 0, 234, 253, 273, 294, 203, 222, 223, 224, 225, 226, 227, 228, 229, 230, 231, 232, 233, 234, 0, 254, 274, 295, 221, 241, 242, 243, 244, 245, 246, 247, 248, 249, 250, 251, 252, 253, 254, 0, 275, 296, 240, 261, 262, 263, 264, 265, 266, 267, 268, 269, 270, 271, 272, 273, 274, 275, 0, 297, 260, 282, 283, 284, 285, 286, 287, 288, 289, 290, 291, 292, 293, 294, 295, 296, 297, 0, 281, 42, 71, 78, 86, 95, 105, 116, 128, 141, 155, 170, 186, 203, 221, 240, 260, 281, 0]
theorem gnNe : ∀ i, i < 18 → ∀ j, j < 18 → i ≠ j → goNar[gnNl.getD (i * 18 + j) 0]? = some (Cond.not (.eq (.static "GoatCourt$Reserved" (goEnm.getD i "") "LGoatCourt$Reserved;") (.static "GoatCourt$Reserved" (goEnm.getD j "") "LGoatCourt$Reserved;"))) ∨ goNar[gnNl.getD (i * 18 + j) 0]? = some (Cond.not (.eq (.static "GoatCourt$Reserved" (goEnm.getD j "") "LGoatCourt$Reserved;") (.static "GoatCourt$Reserved" (goEnm.getD i "") "LGoatCourt$Reserved;"))) := by decide +kernel
theorem gnRe : ∀ i, i < 18 → goNar[([9, 10, 11, 12, 13, 14, 15, 16, 17, 18, 19, 20, 21, 22, 23, 24, 25, 26] : List Nat).getD i 0]? = some (Cond.eq (.elem (.static "GoatCourt" "RESERVED" "[LGoatCourt$Reserved;") (.int (Int32.ofNat i))) (.static "GoatCourt$Reserved" (goEnm.getD i "") "LGoatCourt$Reserved;")) := by decide +kernel
theorem gnSw : ∀ i, i < 18 → goNar[([46, 47, 48, 49, 50, 51, 52, 53, 54, 55, 56, 57, 58, 59, 60, 61, 62, 63] : List Nat).getD i 0]? = some (Cond.eq (.elem (.static "GoatCourt$1" "$SwitchMap$GoatCourt$Reserved" "[I") (.int (Int32.ofNat i))) (.int (goSwl.getD i 0))) := by decide +kernel
theorem gnSx : ∀ i, i < 58 → goNar[([312, 321, 363, 372, 378, 331, 340, 347, 356, 387, 393, 402, 664, 673, 683, 692, 703, 713, 722, 732, 742, 751, 761, 770, 780, 789, 799, 809, 820, 660, 410, 439, 448, 456, 466, 475, 483, 492, 501, 509, 518, 526, 535, 543, 552, 561, 571, 418, 428, 578, 588, 596, 606, 614, 624, 631, 641, 651] : List Nat).getD i 0]? = some (Cond.exactly (.string (goSck.getD i ("", 0, "")).1 (goSck.getD i ("", 0, "")).2.1) "java/lang/String") := by decide +kernel
theorem gnSc : ∀ i, i < 58 → goNar[([313, 322, 364, 373, 379, 332, 341, 348, 357, 388, 394, 403, 665, 674, 684, 693, 704, 714, 723, 733, 743, 752, 762, 771, 781, 790, 800, 810, 821, 661, 411, 440, 449, 457, 467, 476, 484, 493, 502, 510, 519, 527, 536, 544, 553, 562, 572, 419, 429, 579, 589, 597, 607, 615, 625, 632, 642, 652] : List Nat).getD i 0]? = some (Cond.eq (.field (.string (goSck.getD i ("", 0, "")).1 (goSck.getD i ("", 0, "")).2.1) "java/lang/String" "coder" "B") (.int 0)) := by decide +kernel
theorem gnSa : ∀ i, i < 58 → goNar[([314, 323, 365, 374, 380, 333, 342, 349, 358, 389, 395, 404, 666, 675, 685, 694, 705, 715, 724, 734, 744, 753, 763, 772, 782, 791, 801, 811, 822, 662, 412, 441, 450, 458, 468, 477, 485, 494, 503, 511, 520, 528, 537, 545, 554, 563, 573, 420, 430, 580, 590, 598, 608, 616, 626, 633, 643, 653] : List Nat).getD i 0]? = some (Cond.arrayOf (.field (.string (goSck.getD i ("", 0, "")).1 (goSck.getD i ("", 0, "")).2.1) "java/lang/String" "value" "[B") .byte) := by decide +kernel
theorem gnSl : ∀ i, i < 58 → goNar[([315, 324, 366, 375, 381, 334, 343, 350, 359, 390, 396, 405, 667, 676, 686, 695, 706, 716, 725, 735, 745, 754, 764, 773, 783, 792, 802, 812, 823, 663, 413, 442, 451, 459, 469, 478, 486, 495, 504, 512, 521, 529, 538, 546, 555, 564, 574, 421, 431, 581, 591, 599, 609, 617, 627, 634, 644, 654] : List Nat).getD i 0]? = some (Cond.eq (.length (.field (.string (goSck.getD i ("", 0, "")).1 (goSck.getD i ("", 0, "")).2.1) "java/lang/String" "value" "[B")) (.int (Int32.ofNat (goStr.getD i []).length))) := by decide +kernel
def gnEl : List (List Nat) := [[316, 317, 318, 319, 320], [325, 326, 327, 328, 329, 330], [367, 368, 369, 370, 371], [376, 377], [382, 383, 384, 385, 386], [335, 336, 337, 338, 339], [344, 345, 346], [351, 352, 353, 354, 355], [360, 361, 362], [391, 392], [397, 398, 399, 400, 401], [406, 407, 408, 409], [668, 669, 670, 671], [677, 678, 679, 680, 681], [687, 688, 689, 690], [696, 697, 698, 699, 700, 701], [707, 708, 709, 710, 711], [717, 718, 719, 720], [726, 727, 728, 729, 730], [736, 737, 738, 739, 740], [746, 747, 748, 749], [755, 756, 757, 758, 759], [765, 766, 767, 768], [774, 775, 776, 777, 778], [784, 785, 786, 787], [793, 794, 795, 796, 797], [803, 804, 805, 806, 807], [813, 814, 815, 816, 817, 818], [824, 825], [], [414, 415, 416, 417], [443, 444, 445, 446, 447], [452, 453, 454, 455], [460, 461, 462, 463, 464, 465], [470, 471, 472, 473, 474], [479, 480, 481, 482], [487, 488, 489, 490, 491], [496, 497, 498, 499, 500], [505, 506, 507, 508], [513, 514, 515, 516, 517], [522, 523, 524, 525], [530, 531, 532, 533, 534], [539, 540, 541, 542], [547, 548, 549, 550, 551], [556, 557, 558, 559, 560], [565, 566, 567, 568, 569, 570], [575, 576], [422, 423, 424, 425, 426], [432, 433, 434, 435, 436, 437], [582, 583, 584, 585, 586], [592, 593, 594], [600, 601, 602, 603, 604], [610, 611, 612], [618, 619, 620, 621, 622], [628, 629], [635, 636, 637, 638, 639], [645, 646, 647, 648, 649], [655, 656, 657, 658]]
theorem gnSe : ∀ i, i < 58 → ∀ j, j < (goStr.getD i []).length → goNar[(gnEl.getD i []).getD j 0]? = some (Cond.eq (.elem (.field (.string (goSck.getD i ("", 0, "")).1 (goSck.getD i ("", 0, "")).2.1) "java/lang/String" "value" "[B") (.int (Int32.ofNat j))) (.int ((goStr.getD i []).getD j 0))) := by decide +kernel
theorem gnSr : ∀ i, i < 58 → Cond.stringRef (goSck.getD i ("", 0, "")).1 (goSck.getD i ("", 0, "")).2.1 (goSck.getD i ("", 0, "")).2.2 ∈ lw_tbl := by
  intro i hi
  match i, hi with
  | 0, _ => exact wl_3 (List.mem_of_getElem? (i := 230) rfl)
  | 1, _ => exact wl_4 (List.mem_of_getElem? (i := 4) rfl)
  | 2, _ => exact wl_4 (List.mem_of_getElem? (i := 64) rfl)
  | 3, _ => exact wl_4 (List.mem_of_getElem? (i := 76) rfl)
  | 4, _ => exact wl_4 (List.mem_of_getElem? (i := 77) rfl)
  | 5, _ => exact wl_4 (List.mem_of_getElem? (i := 60) rfl)
  | 6, _ => exact wl_4 (List.mem_of_getElem? (i := 61) rfl)
  | 7, _ => exact wl_4 (List.mem_of_getElem? (i := 62) rfl)
  | 8, _ => exact wl_4 (List.mem_of_getElem? (i := 63) rfl)
  | 9, _ => exact wl_4 (List.mem_of_getElem? (i := 106) rfl)
  | 10, _ => exact wl_4 (List.mem_of_getElem? (i := 130) rfl)
  | 11, _ => exact wl_4 (List.mem_of_getElem? (i := 131) rfl)
  | 12, _ => exact wl_11 (List.mem_of_getElem? (i := 27) rfl)
  | 13, _ => exact wl_11 (List.mem_of_getElem? (i := 28) rfl)
  | 14, _ => exact wl_11 (List.mem_of_getElem? (i := 29) rfl)
  | 15, _ => exact wl_11 (List.mem_of_getElem? (i := 30) rfl)
  | 16, _ => exact wl_11 (List.mem_of_getElem? (i := 31) rfl)
  | 17, _ => exact wl_11 (List.mem_of_getElem? (i := 32) rfl)
  | 18, _ => exact wl_11 (List.mem_of_getElem? (i := 33) rfl)
  | 19, _ => exact wl_11 (List.mem_of_getElem? (i := 34) rfl)
  | 20, _ => exact wl_11 (List.mem_of_getElem? (i := 35) rfl)
  | 21, _ => exact wl_11 (List.mem_of_getElem? (i := 36) rfl)
  | 22, _ => exact wl_11 (List.mem_of_getElem? (i := 37) rfl)
  | 23, _ => exact wl_11 (List.mem_of_getElem? (i := 38) rfl)
  | 24, _ => exact wl_11 (List.mem_of_getElem? (i := 39) rfl)
  | 25, _ => exact wl_11 (List.mem_of_getElem? (i := 40) rfl)
  | 26, _ => exact wl_11 (List.mem_of_getElem? (i := 41) rfl)
  | 27, _ => exact wl_11 (List.mem_of_getElem? (i := 42) rfl)
  | 28, _ => exact wl_11 (List.mem_of_getElem? (i := 43) rfl)
  | 29, _ => exact wl_11 (List.mem_of_getElem? (i := 26) rfl)
  | 30, _ => exact wl_8 (List.mem_of_getElem? (i := 128) rfl)
  | 31, _ => exact wl_8 (List.mem_of_getElem? (i := 163) rfl)
  | 32, _ => exact wl_8 (List.mem_of_getElem? (i := 180) rfl)
  | 33, _ => exact wl_8 (List.mem_of_getElem? (i := 181) rfl)
  | 34, _ => exact wl_8 (List.mem_of_getElem? (i := 182) rfl)
  | 35, _ => exact wl_8 (List.mem_of_getElem? (i := 183) rfl)
  | 36, _ => exact wl_8 (List.mem_of_getElem? (i := 184) rfl)
  | 37, _ => exact wl_8 (List.mem_of_getElem? (i := 185) rfl)
  | 38, _ => exact wl_8 (List.mem_of_getElem? (i := 186) rfl)
  | 39, _ => exact wl_8 (List.mem_of_getElem? (i := 187) rfl)
  | 40, _ => exact wl_8 (List.mem_of_getElem? (i := 188) rfl)
  | 41, _ => exact wl_8 (List.mem_of_getElem? (i := 189) rfl)
  | 42, _ => exact wl_8 (List.mem_of_getElem? (i := 190) rfl)
  | 43, _ => exact wl_8 (List.mem_of_getElem? (i := 191) rfl)
  | 44, _ => exact wl_8 (List.mem_of_getElem? (i := 192) rfl)
  | 45, _ => exact wl_8 (List.mem_of_getElem? (i := 193) rfl)
  | 46, _ => exact wl_8 (List.mem_of_getElem? (i := 194) rfl)
  | 47, _ => exact wl_8 (List.mem_of_getElem? (i := 146) rfl)
  | 48, _ => exact wl_8 (List.mem_of_getElem? (i := 162) rfl)
  | 49, _ => exact wl_9 (List.mem_of_getElem? (i := 3) rfl)
  | 50, _ => exact wl_9 (List.mem_of_getElem? (i := 4) rfl)
  | 51, _ => exact wl_9 (List.mem_of_getElem? (i := 5) rfl)
  | 52, _ => exact wl_9 (List.mem_of_getElem? (i := 6) rfl)
  | 53, _ => exact wl_9 (List.mem_of_getElem? (i := 7) rfl)
  | 54, _ => exact wl_9 (List.mem_of_getElem? (i := 8) rfl)
  | 55, _ => exact wl_9 (List.mem_of_getElem? (i := 9) rfl)
  | 56, _ => exact wl_9 (List.mem_of_getElem? (i := 52) rfl)
  | 57, _ => exact wl_9 (List.mem_of_getElem? (i := 53) rfl)
  | n + 58, h => exact absurd h (by omega)
theorem gnLs : ∀ i, i < 18 → Cond.laysStatic "GoatCourt$Reserved" (goEnm.getD i "") "LGoatCourt$Reserved;" ∈ lw_tbl := by
  intro i hi
  match i, hi with
  | 0, _ => exact wl_3 (List.mem_of_getElem? (i := 216) rfl)
  | 1, _ => exact wl_11 (List.mem_of_getElem? (i := 10) rfl)
  | 2, _ => exact wl_11 (List.mem_of_getElem? (i := 11) rfl)
  | 3, _ => exact wl_11 (List.mem_of_getElem? (i := 12) rfl)
  | 4, _ => exact wl_11 (List.mem_of_getElem? (i := 13) rfl)
  | 5, _ => exact wl_11 (List.mem_of_getElem? (i := 14) rfl)
  | 6, _ => exact wl_11 (List.mem_of_getElem? (i := 15) rfl)
  | 7, _ => exact wl_11 (List.mem_of_getElem? (i := 16) rfl)
  | 8, _ => exact wl_11 (List.mem_of_getElem? (i := 17) rfl)
  | 9, _ => exact wl_11 (List.mem_of_getElem? (i := 18) rfl)
  | 10, _ => exact wl_11 (List.mem_of_getElem? (i := 19) rfl)
  | 11, _ => exact wl_11 (List.mem_of_getElem? (i := 20) rfl)
  | 12, _ => exact wl_11 (List.mem_of_getElem? (i := 21) rfl)
  | 13, _ => exact wl_11 (List.mem_of_getElem? (i := 22) rfl)
  | 14, _ => exact wl_11 (List.mem_of_getElem? (i := 23) rfl)
  | 15, _ => exact wl_11 (List.mem_of_getElem? (i := 24) rfl)
  | 16, _ => exact wl_11 (List.mem_of_getElem? (i := 25) rfl)
  | 17, _ => exact wl_3 (List.mem_of_getElem? (i := 210) rfl)
  | n + 18, h => exact absurd h (by omega)
theorem goTb_in {w : Cond} (h : w ∈ goTb) : w ∈ lw_tbl := (List.mem_filter.mp h).1
theorem go_classes {s : State} {A : Array Value} (hts : ∀ w ∈ lw_tbl, w.before A s = true) : ∃ f : Nat → ClassId × (Nat → Nat), ∀ (c : Nat) (q : vw_C), vwCl[c]? = some q → u_Kn s q.1 q.2.1 q.2.2 (f c).1 (f c).2 := by
  have h0 : ∀ c : Nat, ∃ r : ClassId × (Nat → Nat), ∀ q : vw_C, vwCl[c]? = some q → u_Kn s q.1 q.2.1 q.2.2 r.1 r.2 := by
    intro c
    match c with
    | 0 => obtain ⟨c9, i9, k9⟩ := u_known (C := RX1) (T := TX1) (N := 6) hts (fun w hw => goTb_in (wly_RX1 w hw)) (hts _ (goTb_in wia_RX1)); exact ⟨(c9, i9), fun q hq => by cases hq; exact k9⟩
    | 1 => obtain ⟨c9, i9, k9⟩ := u_known (C := RX2) (T := TX2) (N := 5) hts (fun w hw => goTb_in (wly_RX2 w hw)) (hts _ (goTb_in wia_RX2)); exact ⟨(c9, i9), fun q hq => by cases hq; exact k9⟩
    | 2 => obtain ⟨c9, i9, k9⟩ := u_known (C := RX3) (T := TX3) (N := 11) hts (fun w hw => goTb_in (wly_RX3 w hw)) (hts _ (goTb_in wia_RX3)); exact ⟨(c9, i9), fun q hq => by cases hq; exact k9⟩
    | 3 => obtain ⟨c9, i9, k9⟩ := u_known (C := RX4) (T := TX4) (N := 12) hts (fun w hw => goTb_in (wly_RX4 w hw)) (hts _ (goTb_in wia_RX4)); exact ⟨(c9, i9), fun q hq => by cases hq; exact k9⟩
    | 4 => obtain ⟨c9, i9, k9⟩ := u_known (C := RX5) (T := TX5) (N := 13) hts (fun w hw => goTb_in (wly_RX5 w hw)) (hts _ (goTb_in wia_RX5)); exact ⟨(c9, i9), fun q hq => by cases hq; exact k9⟩
    | 5 => obtain ⟨c9, i9, k9⟩ := u_known (C := RX6) (T := TX6) (N := 18) hts (fun w hw => goTb_in (wly_RX6 w hw)) (hts _ (goTb_in wia_RX6)); exact ⟨(c9, i9), fun q hq => by cases hq; exact k9⟩
    | 6 => obtain ⟨c9, i9, k9⟩ := u_known (C := RX7) (T := TX7) (N := 7) hts (fun w hw => goTb_in (wly_RX7 w hw)) (hts _ (goTb_in wia_RX7)); exact ⟨(c9, i9), fun q hq => by cases hq; exact k9⟩
    | 7 => obtain ⟨c9, i9, k9⟩ := u_known (C := RX8) (T := TX8) (N := 10) hts (fun w hw => goTb_in (wly_RX8 w hw)) (hts _ (goTb_in wia_RX8)); exact ⟨(c9, i9), fun q hq => by cases hq; exact k9⟩
    | 8 => obtain ⟨c9, i9, k9⟩ := u_known (C := RX9) (T := TX9) (N := 12) hts (fun w hw => goTb_in (wly_RX9 w hw)) (hts _ (goTb_in wia_RX9)); exact ⟨(c9, i9), fun q hq => by cases hq; exact k9⟩
    | 9 => obtain ⟨c9, i9, k9⟩ := u_known (C := RX11) (T := TX11) (N := 9) hts (fun w hw => goTb_in (wly_RX11 w hw)) (hts _ (goTb_in wia_RX11)); exact ⟨(c9, i9), fun q hq => by cases hq; exact k9⟩
    | 10 => obtain ⟨c9, i9, k9⟩ := u_known (C := RX12) (T := TX12) (N := 9) hts (fun w hw => goTb_in (wly_RX12 w hw)) (hts _ (goTb_in wia_RX12)); exact ⟨(c9, i9), fun q hq => by cases hq; exact k9⟩
    | 11 => obtain ⟨c9, i9, k9⟩ := u_known (C := RX13) (T := TX13) (N := 41) hts (fun w hw => goTb_in (wly_RX13 w hw)) (hts _ (goTb_in wia_RX13)); exact ⟨(c9, i9), fun q hq => by cases hq; exact k9⟩
    | 12 => obtain ⟨c9, i9, k9⟩ := u_known (C := RX14) (T := TX14) (N := 39) hts (fun w hw => goTb_in (wly_RX14 w hw)) (hts _ (goTb_in wia_RX14)); exact ⟨(c9, i9), fun q hq => by cases hq; exact k9⟩
    | n + 13 => exact ⟨(default, fun _ => 0), fun q hq => nomatch hq⟩
  exact Classical.axiomOfChoice h0
theorem go_arr {s : State} {A : Array Value} {ty : FieldType} (hty : ∀ C, ty ≠ .object C) (h : (Cond.arrayClass ty).before A s = true) : ∃ cA : ClassId, ArrOfT s cA ty ∧ va_RA s cA ty := by
  obtain ⟨c, k, comp, h1, h2, h3⟩ := Cond.arrayClass_spec h
  refine ⟨c, fun n z => ⟨fun k h => (by cases h), k, h2, comp, h3⟩, ?_⟩
  cases ty <;> first | exact h1 | exact absurd rfl (hty _)
def goSel4 (a1 a2 a3 a4 : ClassId) (k : Nat) : ClassId := match k with
  | 1 => a1
  | 2 => a2
  | 3 => a3
  | _ => a4
def goFid (b tR tS tF : Nat) (sv sk ad : Nat → Nat) (id : Nat) : Nat := if id = 1000800 then b else if id = 1000600 then tR else if id = 1000601 then tS else if id = 1000700 then tF else if 1000300 ≤ id then sv (id - 1000300) else if 1000100 ≤ id then sk (id - 1000100) else ad (id - 1000000)
section goIds
variable {s : State} {z : Nat} {dC : Nat → ClassId} {dI : Nat → Nat → Nat} {cA : Nat → ClassId} {b tR tS tF : Nat} {sv sk ad : Nat → Nat}
theorem goAd_e {j : Nat} (h : j < 18) : goAd (s, z, dC, dI, cA, goFid b tR tS tF sv sk ad) (1000000 + j) = ad j := by
  unfold goAd goFid
  rw [if_neg (by omega)]
  show (if 1000000 + j = 1000800 then b else _) = _
  rw [if_neg (by omega), if_neg (by omega), if_neg (by omega), if_neg (by omega), if_neg (by omega), if_neg (by omega), Nat.add_sub_cancel_left]
theorem goAd_s {j : Nat} (h : j < 58) : goAd (s, z, dC, dI, cA, goFid b tR tS tF sv sk ad) (1000100 + j) = sk j := by
  unfold goAd goFid
  rw [if_neg (by omega)]
  show (if 1000100 + j = 1000800 then b else _) = _
  rw [if_neg (by omega), if_neg (by omega), if_neg (by omega), if_neg (by omega), if_neg (by omega), if_pos (by omega), Nat.add_sub_cancel_left]
theorem goAd_v {j : Nat} (h : j < 58) : goAd (s, z, dC, dI, cA, goFid b tR tS tF sv sk ad) (1000300 + j) = sv j := by
  unfold goAd goFid
  rw [if_neg (by omega)]
  show (if 1000300 + j = 1000800 then b else _) = _
  rw [if_neg (by omega), if_neg (by omega), if_neg (by omega), if_neg (by omega), if_pos (by omega), Nat.add_sub_cancel_left]
end goIds
theorem goEwl_ok : ∀ j, j < 18 → 1000100 ≤ goEwl.getD j 0 ∧ goEwl.getD j 0 < 1000158 := by decide +kernel
theorem gnLen : ∀ i, i < 58 → (goStr.getD i []).length < 2 ^ 31 := by decide +kernel
theorem va_Zuq {C n d : String} {v w : Value} {A : Nat → Prop} {U : State} {H : Heap} (h1 : va_Z C n d v A U H) (h2 : va_Z C n d w A U H) : v = w := by
  obtain ⟨cf, kf, fi, f, a, cell, q1, q2, q3, q4, q5, q6, q7, -⟩ := h1
  obtain ⟨cf', kf', fi', f', a', cell', p1, p2, p3, p4, p5, p6, p7, -⟩ := h2
  cases q1.symm.trans p1
  cases q4.symm.trans p4
  cases q5.symm.trans p5
  exact Option.some.inj (q7.symm.trans p7)
set_option maxHeartbeats 4000000 in
theorem go_found {p : Program} {s : State} {m : MethodId} {meth : Method} {c : Code} {b L : Nat} {xs : Nat → Int32} (C0 : lw_At p s m meth c b L xs) : ∃ E : goEv, E.1 = s ∧ E.2.1 = s.heap.size ∧ goAd E 1000800 = b ∧ goKn E ∧ goXn E := by
  obtain ⟨hx, hcode, hret, hml, hown, hts, hX, hbl, hlk, hgv⟩ := C0
  have hn : ∀ w ∈ goNar, w.before #[Value.ref b] s = true := flat_of_before _ hgv
  have hn' : ∀ (i : Nat) (w : Cond), goNar[i]? = some w → w.before #[Value.ref b] s = true := fun i w h => hn w (List.mem_of_getElem? h)
  have hA : ∀ a : Nat, a < s.heap.size → ¬ (fun q : Nat => s.heap.size ≤ q) a := fun a h => Nat.not_le.mpr h
  obtain ⟨fc, hfc⟩ := go_classes hts
  obtain ⟨a1, ha1⟩ := go_arr (ty := .int) (fun C h => nomatch h) (hts _ (wl_1 (List.mem_of_getElem? (i := 109) rfl)))
  obtain ⟨a2, ha2⟩ := go_arr (ty := .byte) (fun C h => nomatch h) (hts _ (wl_1 (List.mem_of_getElem? (i := 77) rfl)))
  obtain ⟨a3, ha3⟩ := go_arr (ty := .boolean) (fun C h => nomatch h) (hts _ (wl_3 (List.mem_of_getElem? (i := 110) rfl)))
  obtain ⟨a4, ha4⟩ := go_arr (ty := .long) (fun C h => nomatch h) (hts _ (wl_2 (List.mem_of_getElem? (i := 17) rfl)))
  obtain ⟨ad, hEn⟩ := va_Enof (E := "GoatCourt$Reserved") (d := "LGoatCourt$Reserved;") (nm := goEnm) (F := [("GoatCourt$Reserved", "group", "I", goEgl), ("GoatCourt$Reserved", "room", "I", goErl), ("java/lang/Enum", "ordinal", "I", (List.range 18).map Int32.ofNat)]) (A := fun q : Nat => s.heap.size ≤ q) (fun i hi => hts _ (gnLs i hi)) (hts _ (wl_1 (List.mem_of_getElem? (i := 20) rfl))) (fun i hi => hn' _ _ (gnEx i hi)) (fun q hq i hi => by
    rcases List.mem_cons.mp hq with rfl | hq
    · exact hn' _ _ (gnGr i hi)
    · rcases List.mem_cons.mp hq with rfl | hq
      · exact hn' _ _ (gnRo i hi)
      · rcases List.mem_cons.mp hq with rfl | hq
        · have e : ((List.range 18).map Int32.ofNat).getD i 0 = Int32.ofNat i := by
            have hi : i < 18 := hi
            simp [List.getD, hi]
          show (Cond.eq _ (.int (((List.range 18).map Int32.ofNat).getD i 0))).before _ _ = true
          rw [e]
          exact hn' _ _ (gnOr i hi)
        · exact absurd hq List.not_mem_nil) (fun i j hi hj hij => (gnNe i hi j hj hij).imp (fun h => hn' _ _ h) (fun h => hn' _ _ h)) hA
  have hSt : ∀ i : Nat, ∃ q : Nat × Nat, i < 58 → (Term.string (goSck.getD i ("", 0, "")).1 (goSck.getD i ("", 0, "")).2.1).eval #[Value.ref b] s none [] s = some (.ref q.1) ∧ va_O "java/lang/String" q.1 (fun q : Nat => s.heap.size ≤ q) s s.heap ∧ va_OF "java/lang/String" "coder" "B" (.int 0) q.1 (fun q : Nat => s.heap.size ≤ q) s s.heap ∧ va_OF "java/lang/String" "value" "[B" (.ref q.2) q.1 (fun q : Nat => s.heap.size ≤ q) s s.heap ∧ va_T .byte q.2 (goStr.getD i []).length (fun j => .int ((goStr.getD i []).getD j 0)) (fun q : Nat => s.heap.size ≤ q) s s.heap := by
    intro i
    by_cases hi : i < 58
    · obtain ⟨a, c, cA, kA, q1, q2, q3, q4, q5, q6, -⟩ := Cond.exactly_spec (args := #[Value.ref b]) (first := s) (o := none) (s := s) (idx := []) (hn' _ _ (gnSx i hi))
      obtain ⟨t, ht, hT⟩ := va_Tof (f := fun j => .int ((goStr.getD i []).getD j 0)) (A := fun q : Nat => s.heap.size ≤ q) (N := (goStr.getD i []).length) (gnLen i hi) (hn' _ _ (gnSa i hi)) (va_eqt (hn' _ _ (gnSl i hi))) (fun j hj => va_eqt (hn' _ _ (gnSe i hi j hj))) hA
      exact ⟨(a, t), fun _ => ⟨q1, ⟨cA, q3, q5, by rw [q6]; exact q2, hA a (Array.getElem?_eq_some_iff.mp q3).1⟩, vk_OFof q1 (va_eqt (hn' _ _ (gnSc i hi))) hA, vk_OFof q1 ht hA, hT⟩⟩
    · exact ⟨(0, 0), fun h => absurd h hi⟩
  obtain ⟨sd, hsd⟩ := Classical.axiomOfChoice hSt
  have hEv : ∀ i, i < 18 → (Term.static "GoatCourt$Reserved" (goEnm.getD i "") "LGoatCourt$Reserved;").eval #[Value.ref b] s none [] s = some (.ref (ad i)) := fun i hi => by
    obtain ⟨a, c, cA, kA, q1, -⟩ := Cond.exactly_spec (args := #[Value.ref b]) (first := s) (o := none) (s := s) (idx := []) (hn' _ _ (gnEx i hi))
    have h2 := va_Zuq (va_Zref (hts _ (gnLs i hi)) (hts _ (wl_1 (List.mem_of_getElem? (i := 20) rfl))) q1 hA) (hEn.1 i hi).1
    rw [q1, h2]
  obtain ⟨tR, htR, hTR⟩ := va_Tof (tm := .static "GoatCourt" "RESERVED" "[LGoatCourt$Reserved;") (ty := .object "GoatCourt$Reserved") (N := 18) (f := fun j => .ref (ad j)) (A := fun q : Nat => s.heap.size ≤ q) (by decide) (hn _ (List.mem_of_getElem? (i := 6) rfl)) (va_eqt (hn _ (List.mem_of_getElem? (i := 7) rfl))) (fun j hj => va_eqv (hn' _ _ (gnRe j hj)) (hEv j hj)) hA
  obtain ⟨tS, htS, hTS⟩ := va_Tof (tm := .static "GoatCourt$1" "$SwitchMap$GoatCourt$Reserved" "[I") (ty := .int) (N := 18) (f := fun j => .int (goSwl.getD j 0)) (A := fun q : Nat => s.heap.size ≤ q) (by decide) (hn _ (List.mem_of_getElem? (i := 44) rfl)) (va_eqt (hn _ (List.mem_of_getElem? (i := 45) rfl))) (fun j hj => va_eqt (hn' _ _ (gnSw j hj))) hA
  have hF : ∃ tF : Nat, va_Z "jdk/internal/util/Preconditions" "SIOOBE_FORMATTER" "Ljava/util/function/BiFunction;" .null (fun q : Nat => s.heap.size ≤ q) s s.heap ∨ va_Z "jdk/internal/util/Preconditions" "SIOOBE_FORMATTER" "Ljava/util/function/BiFunction;" (.ref tF) (fun q : Nat => s.heap.size ≤ q) s s.heap := by
    rcases va_Zqof (hts _ (wl_2 (List.mem_of_getElem? (i := 151) rfl))) (hts _ (wl_1 (List.mem_of_getElem? (i := 11) rfl))) (hn _ (List.mem_of_getElem? (i := 28) rfl)) hA with h | ⟨t, h⟩
    · exact ⟨0, Or.inl h⟩
    · exact ⟨t, Or.inr h⟩
  obtain ⟨tF, hF⟩ := hF
  refine ⟨(s, s.heap.size, fun k => (fc k).1, fun k => (fc k).2, fun k => goSel4 a1 a2 a3 a4 k, goFid b tR tS tF (fun i => (sd i).2) (fun i => (sd i).1) ad), rfl, rfl, rfl, ⟨⟨hfc, ?_⟩, rfl, ?_, ?_⟩, ?_⟩
  · intro k q hk
    match k with
    | 0 => cases hk; exact ha1
    | 1 => cases hk; exact ha2
    | 2 => cases hk; exact ha3
    | 3 => cases hk; exact ha4
    | n + 4 => exact nomatch hk
  · intro w hw hg
    exact va_Nw.of (by cases w <;> first | rfl | exact absurd hg Bool.false_ne_true) (hts w hw)
  · refine ⟨⟨va_Zref (hts _ (wl_2 (List.mem_of_getElem? (i := 121) rfl))) (hts _ (wl_1 (List.mem_of_getElem? (i := 1) rfl))) htR hA, ?_⟩, ⟨va_Zref (hts _ (wl_3 (List.mem_of_getElem? (i := 219) rfl))) (hts _ (wl_1 (List.mem_of_getElem? (i := 21) rfl))) htS hA, hTS⟩, fun j hj => ?_, fun i j hi hj h => ?_, fun i hi => ?_, va_Zof (hts _ (wl_2 (List.mem_of_getElem? (i := 134) rfl))) (hts _ (wl_1 (List.mem_of_getElem? (i := 9) rfl))) (va_eqi (hn _ (List.mem_of_getElem? (i := 27) rfl))) hA, hF⟩
    · obtain ⟨cell, h1, h2, h3, h4, h5, h6, h7⟩ := hTR
      refine ⟨cell, h1, h2, h3, h4, h5, fun j hj => ?_, h7⟩
      rw [h6 j hj]
      show some (Value.ref (ad j)) = some (Value.ref (goAd _ (1000000 + j)))
      rw [goAd_e hj]
    · rw [goAd_e hj]
      have h := hEn.1 j hj
      refine ⟨h.1, h.2.1, h.2.2 _ List.mem_cons_self, h.2.2 _ (List.mem_cons_of_mem _ List.mem_cons_self), ?_, ?_⟩
      · have h3 := h.2.2 _ (List.mem_cons_of_mem _ (List.mem_cons_of_mem _ List.mem_cons_self))
        have e : ((List.range 18).map Int32.ofNat).getD j 0 = Int32.ofNat j := by
          simp [List.getD, hj]
        rw [← e]
        exact h3
      · have h5 := goEwl_ok j hj
        have h4 := va_eqv (hn' _ _ (gnWo j hj)) ((hsd (goEwl.getD j 0 - 1000100) (by omega)).1)
        have e : goEwl.getD j 0 = 1000100 + (goEwl.getD j 0 - 1000100) := by omega
        rw [e, goAd_s (by omega)]
        exact vk_OFof (hEv j hj) h4 hA
    · rw [goAd_e hi, goAd_e hj] at h
      exact hEn.2 i j hi hj h
    · rw [goAd_s hi, goAd_v hi]
      obtain ⟨h1, h2, h3, h4, h5⟩ := hsd i hi
      exact ⟨vk_R.of (hts _ (gnSr i hi)) h1, h2, h3, h4, h5⟩
  · refine ⟨vx_Zqof (hts _ (wl_7 (List.mem_of_getElem? (i := 13) rfl))) (hts _ (wl_1 (List.mem_of_getElem? (i := 25) rfl))) (hn _ (List.mem_of_getElem? (i := 64) rfl)) hA, vx_Zqof (hts _ (wl_7 (List.mem_of_getElem? (i := 15) rfl))) (hts _ (wl_1 (List.mem_of_getElem? (i := 25) rfl))) (hn _ (List.mem_of_getElem? (i := 65) rfl)) hA, fun w hw hg => ?_⟩
    exact va_Nw.of (by cases w <;> first | rfl | exact absurd hg Bool.false_ne_true) (hts w hw)
