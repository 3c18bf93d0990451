theorem in_p {big : List Cond} (ws : List Cond) (ps : List Nat) (hp : ws = ps.filterMap (fun i => big[i]?)) : ∀ w ∈ ws, w ∈ big := by
  intro w hw
  rw [hp] at hw
  obtain ⟨i, -, hi⟩ := List.mem_filterMap.mp hw
  exact List.mem_of_getElem? hi
set_option maxRecDepth 20000 in
theorem in_wsL_law_r1 : ∀ w ∈ wsL_law_r1, w ∈ lw_tbl := in_p _ [47, 48, 36, 559, 560, 44, 49, 50, 51, 52, 53, 54, 55, 264, 57, 265, 59, 266, 61, 267, 63, 268, 65, 66] (by decide +kernel)
set_option maxRecDepth 20000 in
theorem in_wsL_law_r2 : ∀ w ∈ wsL_law_r2, w ∈ lw_tbl := in_p _ [37, 269, 93, 94, 38, 270, 117, 39, 166, 40, 190, 41, 219, 42, 250, 43, 68, 69, 70, 92, 71, 73, 74, 75] (by decide +kernel)
set_option maxRecDepth 20000 in
theorem in_wsL_law_r3 : ∀ w ∈ wsL_law_r3, w ∈ lw_tbl := in_p _ [96, 97, 98, 99, 103, 119, 120, 121, 122, 124, 126, 128, 134, 137, 168, 169, 170, 175, 192, 193, 194, 198, 221, 222] (by decide +kernel)
set_option maxRecDepth 20000 in
theorem in_wsL_law_r4 : ∀ w ∈ wsL_law_r4, w ∈ lw_tbl := in_p _ [223, 226, 252, 253, 254, 257, 561, 562, 563, 564, 566, 567, 568, 569, 570, 571, 572, 573, 574, 701, 575, 576, 577, 578] (by decide +kernel)
set_option maxRecDepth 20000 in
theorem in_wsL_law_r5 : ∀ w ∈ wsL_law_r5, w ∈ lw_tbl := in_p _ [579, 580, 581, 582, 583, 584, 585, 586, 587, 588, 589, 590, 591, 592, 593, 594, 595, 596, 598, 600, 601, 602, 603, 604] (by decide +kernel)
set_option maxRecDepth 20000 in
theorem in_wsL_law_r6 : ∀ w ∈ wsL_law_r6, w ∈ lw_tbl := in_p _ [605, 292, 293, 294, 295, 296, 297, 298, 299, 300, 301, 302, 303, 304, 305, 130, 133, 135, 702, 703, 704, 705, 706, 707] (by decide +kernel)
set_option maxRecDepth 20000 in
theorem in_wsL_law_r7 : ∀ w ∈ wsL_law_r7, w ∈ lw_tbl := in_p _ [708, 709, 710, 711, 306, 307, 308, 309, 129, 712, 713, 714, 715, 310, 311, 312, 313, 125, 131, 716, 717, 718, 719, 314] (by decide +kernel)
set_option maxRecDepth 20000 in
theorem in_wsL_law_r8 : ∀ w ∈ wsL_law_r8, w ∈ lw_tbl := in_p _ [315, 316, 317, 138, 720, 721, 722, 723, 318, 319, 320, 321, 322, 323, 324, 325, 724, 725, 726, 727, 326, 327, 328, 329] (by decide +kernel)
set_option maxRecDepth 20000 in
theorem in_wsL_law_r9 : ∀ w ∈ wsL_law_r9, w ∈ lw_tbl := in_p _ [172, 728, 729, 730, 731, 330, 331, 332, 333, 176, 732, 733, 734, 735, 334, 335, 336, 337, 338, 339, 340, 341, 171, 173] (by decide +kernel)
set_option maxRecDepth 20000 in
theorem in_wsL_law_r10 : ∀ w ∈ wsL_law_r10, w ∈ lw_tbl := in_p _ [174, 736, 737, 738, 739, 342, 343, 344, 345, 346, 347, 348, 349, 195, 197, 199, 200, 201, 203, 740, 741, 742, 743, 350] (by decide +kernel)
set_option maxRecDepth 20000 in
theorem in_wsL_law_r11 : ∀ w ∈ wsL_law_r11, w ∈ lw_tbl := in_p _ [351, 352, 353, 354, 355, 356, 357, 744, 745, 746, 747, 358, 359, 360, 361, 362, 363, 364, 365, 748, 749, 750, 751, 366] (by decide +kernel)
set_option maxRecDepth 20000 in
theorem in_wsL_law_r12 : ∀ w ∈ wsL_law_r12, w ∈ lw_tbl := in_p _ [367, 368, 369, 271, 370, 372, 0, 373, 102, 178, 196, 225, 100, 374, 375, 376, 377, 177, 378, 380, 1, 381, 140, 382] (by decide +kernel)
set_option maxRecDepth 20000 in
theorem in_wsL_law_r13 : ∀ w ∈ wsL_law_r13, w ∈ lw_tbl := in_p _ [383, 384, 385, 139, 141, 386, 388, 2, 389, 390, 392, 3, 393, 394, 396, 4, 397, 398, 400, 5, 401, 402, 404, 6] (by decide +kernel)
set_option maxRecDepth 20000 in
theorem in_wsL_law_r14 : ∀ w ∈ wsL_law_r14, w ∈ lw_tbl := in_p _ [405, 406, 408, 7, 409, 410, 411, 412, 413, 414, 415, 416, 417, 228, 229, 422, 423, 45, 424, 418, 420, 8, 421, 142] (by decide +kernel)
set_option maxRecDepth 20000 in
theorem in_wsL_law_r15 : ∀ w ∈ wsL_law_r15, w ∈ lw_tbl := in_p _ [132, 227, 425, 426, 427, 428, 104, 105, 429, 430, 431, 432, 433, 434, 435, 437, 9, 438, 272, 439, 440, 441, 442, 232] (by decide +kernel)
set_option maxRecDepth 20000 in
theorem in_wsL_law_r16 : ∀ w ∈ wsL_law_r16, w ∈ lw_tbl := in_p _ [231, 443, 444, 445, 446, 230, 447, 448, 449, 450, 78, 76, 451, 752, 753, 754, 755, 565, 756, 758, 14, 759, 606, 608] (by decide +kernel)
set_option maxRecDepth 20000 in
theorem in_wsL_law_r17 : ∀ w ∈ wsL_law_r17, w ∈ lw_tbl := in_p _ [609, 760, 762, 15, 763, 764, 766, 16, 767, 768, 770, 17, 771, 772, 774, 18, 775, 776, 778, 19, 779, 780, 782, 20] (by decide +kernel)
set_option maxRecDepth 20000 in
theorem in_wsL_law_r18 : ∀ w ∈ wsL_law_r18, w ∈ lw_tbl := in_p _ [783, 784, 786, 21, 787, 788, 790, 22, 791, 792, 794, 23, 795, 796, 798, 24, 799, 800, 802, 25, 803, 804, 806, 26] (by decide +kernel)
set_option maxRecDepth 20000 in
theorem in_wsL_law_r19 : ∀ w ∈ wsL_law_r19, w ∈ lw_tbl := in_p _ [807, 808, 810, 27, 811, 607, 812, 813, 814, 815, 816, 817, 818, 820, 28, 821, 822, 824, 29, 825, 597, 826, 828, 30] (by decide +kernel)
set_option maxRecDepth 20000 in
theorem in_wsL_law_r20 : ∀ w ∈ wsL_law_r20, w ∈ lw_tbl := in_p _ [829, 830, 832, 31, 833, 599, 452, 453, 454, 455, 456, 457, 458, 459, 224, 834, 835, 836, 837, 460, 461, 462, 463, 464] (by decide +kernel)
set_option maxRecDepth 20000 in
theorem in_wsL_law_r21 : ∀ w ∈ wsL_law_r21, w ∈ lw_tbl := in_p _ [465, 466, 467, 468, 469, 470, 838, 839, 840, 841, 471, 472, 473, 474, 475, 476, 477, 478, 842, 843, 844, 845, 846, 848] (by decide +kernel)
set_option maxRecDepth 20000 in
theorem in_wsL_law_r22 : ∀ w ∈ wsL_law_r22, w ∈ lw_tbl := in_p _ [32, 849, 479, 480, 481, 482, 72, 850, 851, 852, 853, 483, 484, 485, 486, 854, 855, 856, 857, 858, 860, 33, 861, 487] (by decide +kernel)
set_option maxRecDepth 20000 in
theorem in_wsL_law_r23 : ∀ w ∈ wsL_law_r23, w ∈ lw_tbl := in_p _ [488, 489, 490, 862, 863, 864, 865, 491, 492, 493, 494, 495, 496, 497, 498, 866, 867, 868, 869, 500, 501, 502, 503, 256] (by decide +kernel)
set_option maxRecDepth 20000 in
theorem in_wsL_law_r24 : ∀ w ∈ wsL_law_r24, w ∈ lw_tbl := in_p _ [258, 870, 871, 872, 873, 874, 875, 876, 504, 505, 506, 507, 508, 510, 10, 511, 127, 123, 512, 513, 514, 515, 255, 877] (by decide +kernel)
set_option maxRecDepth 20000 in
theorem in_wsL_law_r25 : ∀ w ∈ wsL_law_r25, w ∈ lw_tbl := in_p _ [878, 879, 880, 881, 883, 34, 884, 516, 517, 518, 519, 885, 886, 887, 888, 520, 521, 522, 523, 524, 525, 526, 527, 101] (by decide +kernel)
set_option maxRecDepth 20000 in
theorem in_wsL_law_r26 : ∀ w ∈ wsL_law_r26, w ∈ lw_tbl := in_p _ [889, 890, 891, 892, 528, 529, 530, 531, 532, 533, 534, 535, 893, 894, 895, 896, 536, 537, 538, 539, 77, 540, 542, 11] (by decide +kernel)
set_option maxRecDepth 20000 in
theorem in_wsL_law_r27 : ∀ w ∈ wsL_law_r27, w ∈ lw_tbl := in_p _ [543, 544, 545, 546, 46, 547, 548, 549, 550, 551, 553, 12, 554, 202, 555, 557, 13, 558, 136, 897, 898, 899, 900] (by decide +kernel)
set_option maxRecDepth 20000 in
theorem inX0 : ∀ w ∈ wsX00, w ∈ lw_tbl := in_p _ [204, 206, 208, 210, 212, 214, 216] (by decide +kernel)
set_option maxRecDepth 20000 in
theorem inX1 : ∀ w ∈ wsX10, w ∈ lw_tbl := in_p _ [233, 235, 237, 239, 241, 243, 245, 247] (by decide +kernel)
set_option maxRecDepth 20000 in
theorem inX2 : ∀ w ∈ wsX20, w ∈ lw_tbl := in_p _ [143, 145, 147, 149, 151, 153, 155, 157, 159, 161, 163] (by decide +kernel)
set_option maxRecDepth 20000 in
theorem inX3 : ∀ w ∈ wsX30, w ∈ lw_tbl := in_p _ [179, 181, 183, 185, 187] (by decide +kernel)
set_option maxRecDepth 20000 in
theorem inX4 : ∀ w ∈ wsX40, w ∈ lw_tbl := in_p _ [259, 261] (by decide +kernel)
set_option maxRecDepth 20000 in
theorem inX5 : ∀ w ∈ wsX50, w ∈ lw_tbl := in_p _ [79, 81, 83, 85, 87, 89] (by decide +kernel)
set_option maxRecDepth 20000 in
theorem inX6 : ∀ w ∈ wsX60, w ∈ lw_tbl := in_p _ [106, 108, 110, 112, 114] (by decide +kernel)
set_option maxRecDepth 20000 in
theorem inX7 : ∀ w ∈ wsX70, w ∈ lw_tbl := in_p _ [273, 275, 277, 279, 281, 283, 285, 287, 289] (by decide +kernel)
set_option maxRecDepth 20000 in
theorem inX8 : ∀ w ∈ wsX80, w ∈ lw_tbl := in_p _ [610, 612, 614, 616, 618, 620, 622, 624, 626, 628, 630, 632, 634, 636, 638, 640, 642, 644, 646, 648, 650, 652, 654, 656, 658, 660, 662, 664, 666, 668, 670, 672, 674, 676, 678, 680, 682, 684, 686, 688, 690, 692, 694, 696, 698] (by decide +kernel)
theorem wsL_law_in : ∀ w ∈ wsL_law, w ∈ lw_tbl := by
  unfold wsL_law
  simp only [List.forall_mem_append]
  exact ⟨⟨⟨⟨⟨⟨⟨⟨⟨⟨⟨in_wsL_law_r1, in_wsL_law_r2, in_wsL_law_r3, in_wsL_law_r4, in_wsL_law_r5, in_wsL_law_r6, in_wsL_law_r7, in_wsL_law_r8, in_wsL_law_r9, in_wsL_law_r10, in_wsL_law_r11, in_wsL_law_r12, in_wsL_law_r13, in_wsL_law_r14, in_wsL_law_r15, in_wsL_law_r16, in_wsL_law_r17, in_wsL_law_r18, in_wsL_law_r19, in_wsL_law_r20, in_wsL_law_r21, in_wsL_law_r22, in_wsL_law_r23, in_wsL_law_r24, in_wsL_law_r25, in_wsL_law_r26, in_wsL_law_r27⟩, inX7⟩, inX8⟩, inX5⟩, inX6⟩, inX2⟩, inX3⟩, inX0⟩, inX1⟩, inX4⟩, fun _ h => absurd h List.not_mem_nil⟩
set_option maxRecDepth 20000 in
theorem nw_0 : (Cond.methodLinkNest RX5 37 yX7_within "ChipTimers") ∈ lw_tbl := List.mem_of_getElem? (i := 499) (by decide +kernel)
set_option maxRecDepth 20000 in
theorem nw_1 : (Cond.methodLinkNest RX7 41 yX5_init "ChipTimers") ∈ lw_tbl := List.mem_of_getElem? (i := 67) (by decide +kernel)
set_option maxRecDepth 20000 in
theorem nw_2 : (Cond.methodLinkNest RX7 48 yX6_init "ChipTimers") ∈ lw_tbl := List.mem_of_getElem? (i := 95) (by decide +kernel)
set_option maxRecDepth 20000 in
theorem nw_3 : (Cond.methodLinkNest RX7 53 yX2_init "ChipTimers") ∈ lw_tbl := List.mem_of_getElem? (i := 118) (by decide +kernel)
set_option maxRecDepth 20000 in
theorem nw_4 : (Cond.methodLinkNest RX7 54 yX3_init "ChipTimers") ∈ lw_tbl := List.mem_of_getElem? (i := 167) (by decide +kernel)
set_option maxRecDepth 20000 in
theorem nw_5 : (Cond.methodLinkNest RX7 55 yX0_init "ChipTimers") ∈ lw_tbl := List.mem_of_getElem? (i := 191) (by decide +kernel)
set_option maxRecDepth 20000 in
theorem nw_6 : (Cond.methodLinkNest RX7 56 yX1_init "ChipTimers") ∈ lw_tbl := List.mem_of_getElem? (i := 220) (by decide +kernel)
set_option maxRecDepth 20000 in
theorem nw_7 : (Cond.methodLinkNest RX7 57 yX4_init "ChipTimers") ∈ lw_tbl := List.mem_of_getElem? (i := 251) (by decide +kernel)
set_option maxRecDepth 20000 in
theorem ao_0 : (Cond.arrayOver (.object RX2)) ∈ lw_tbl := List.mem_of_getElem? (i := 56) (by decide +kernel)
set_option maxRecDepth 20000 in
theorem ao_1 : (Cond.arrayOver (.object RX3)) ∈ lw_tbl := List.mem_of_getElem? (i := 58) (by decide +kernel)
set_option maxRecDepth 20000 in
theorem ao_2 : (Cond.arrayOver (.object RX0)) ∈ lw_tbl := List.mem_of_getElem? (i := 60) (by decide +kernel)
set_option maxRecDepth 20000 in
theorem ao_3 : (Cond.arrayOver (.object RX1)) ∈ lw_tbl := List.mem_of_getElem? (i := 62) (by decide +kernel)
set_option maxRecDepth 20000 in
theorem ao_4 : (Cond.arrayOver (.object RX4)) ∈ lw_tbl := List.mem_of_getElem? (i := 64) (by decide +kernel)
set_option maxRecDepth 20000 in
theorem ac_0 : (Cond.arrayClass .int) ∈ lw_tbl := List.mem_of_getElem? (i := 92) (by decide +kernel)
set_option maxRecDepth 20000 in
theorem ac_1 : (Cond.arrayClass .boolean) ∈ lw_tbl := List.mem_of_getElem? (i := 701) (by decide +kernel)
set_option maxRecDepth 20000 in
theorem im_0 : (Cond.instantiable RX0 7) ∈ lw_tbl := List.mem_of_getElem? (i := 190) (by decide +kernel)
set_option maxRecDepth 20000 in
theorem im_1 : (Cond.instantiable RX1 8) ∈ lw_tbl := List.mem_of_getElem? (i := 219) (by decide +kernel)
set_option maxRecDepth 20000 in
theorem im_2 : (Cond.instantiable RX2 11) ∈ lw_tbl := List.mem_of_getElem? (i := 117) (by decide +kernel)
set_option maxRecDepth 20000 in
theorem im_3 : (Cond.instantiable RX3 5) ∈ lw_tbl := List.mem_of_getElem? (i := 166) (by decide +kernel)
set_option maxRecDepth 20000 in
theorem im_4 : (Cond.instantiable RX4 2) ∈ lw_tbl := List.mem_of_getElem? (i := 250) (by decide +kernel)
set_option maxRecDepth 20000 in
theorem im_5 : (Cond.instantiable RX5 6) ∈ lw_tbl := List.mem_of_getElem? (i := 66) (by decide +kernel)
set_option maxRecDepth 20000 in
theorem im_6 : (Cond.instantiable RX6 5) ∈ lw_tbl := List.mem_of_getElem? (i := 94) (by decide +kernel)
set_option maxRecDepth 20000 in
theorem im_7 : (Cond.instantiable RX7 9) ∈ lw_tbl := List.mem_of_getElem? (i := 48) (by decide +kernel)
set_option maxRecDepth 20000 in
theorem im_8 : (Cond.instantiable RX8 45) ∈ lw_tbl := List.mem_of_getElem? (i := 560) (by decide +kernel)
theorem ct_arrP {s : State} {args : Array Value} {ty : FieldType} (h : (Cond.arrayClass ty).before args s = true) (hr : ∀ u, va_RA s u ty ↔ s.vm.findClass ("[" ++ ty.toString) = some u) : ∃ c : ClassId, ArrOfT s c ty ∧ va_RA s c ty := by
  obtain ⟨c, k, comp, h1, h2, h3⟩ := Cond.arrayClass_spec h
  exact ⟨c, fun n z => ⟨fun k h => (by cases h), k, h2, comp, h3⟩, (hr c).mpr h1⟩
theorem ct_arrO {s : State} {args : Array Value} {C : String} (h : (Cond.arrayOver (.object C)).before args s = true) : ∃ c : ClassId, ArrOfT s c (.object C) ∧ va_RA s c (.object C) := by
  obtain ⟨comp, c, k, h1, h2, h3, h4, h5⟩ := Cond.arrayOver_spec h
  exact ⟨c, fun n z => ⟨fun k h => (by cases h), k, h3, comp, h4⟩, k, comp, h3, h4, h1, h5⟩
theorem J_t0 : J t0 := by
  have f4 : ∀ {P : Nat → Prop}, P 0 → P 1 → P 2 → P 3 → ∀ j, j < 4 → P j := fun h0 h1 h2 h3 j hj => co_4 h0 h1 h2 h3 hj
  refine ⟨⟨f4 ?_ ?_ ?_ ?_, by decide, fun j => Or.inl rfl⟩, f4 ?_ ?_ ?_ ?_, f4 ?_ ?_ ?_ ?_, f4 ?_ ?_ ?_ ?_, ?_, ?_, fun p _ => rfl, 0, 0, by decide, by decide, by decide, by decide, by decide, fun k hk => absurd hk (Nat.not_lt_zero k)⟩
  · unfold rc ic; decide
  · unfold rc ic; decide
  · unfold rc ic; decide
  · unfold rc ic; decide
  · unfold ri; decide
  · unfold ri; decide
  · unfold ri; decide
  · unfold ri; decide
  · unfold rt it vp_in; decide
  · unfold rt it vp_in; decide
  · unfold rt it vp_in; decide
  · unfold rt it vp_in; decide
  · unfold rh ih vp_in; decide
  · unfold rh ih vp_in; decide
  · unfold rh ih vp_in; decide
  · unfold rh ih vp_in; decide
  · intro j hj
    rcases (show j = 0 ∨ j = 1 by omega) with rfl | rfl <;> decide
  · unfold PG vp_in; decide
/-- the cells that a kind names -/
def kref (k : ct_K) : List Nat := match k with
  | .inl _ => []
  | .inr (.inl a) => a.2
  | .inr (.inr o) => o.2.filterMap id
theorem ct_e_congr {g g' : ct_G} {f : Nat → Int32} {k : ct_K} (h2 : g.2.2 = g'.2.2) (h : ∀ r ∈ kref k, g.2.1 r = g'.2.1 r) : ct_e g f k = ct_e g' f k := by
  match k with
  | .inl a => unfold ct_e; rw [h2]
  | .inr (.inl a) =>
    unfold ct_e
    rw [h2]
    have : (fun j : Nat => (a.2[j]?).map g.2.1) = fun j : Nat => (a.2[j]?).map g'.2.1 := by
      funext j
      cases e : a.2[j]? with
      | none => rfl
      | some r => exact congrArg some (h r (List.mem_of_getElem? e))
    show Sum.inl (_, _, Sum.inr (Sum.inr (Sum.inr (Sum.inr (fun j : Nat => (a.2[j]?).map g.2.1))))) = Sum.inl (_, _, Sum.inr (Sum.inr (Sum.inr (Sum.inr (fun j : Nat => (a.2[j]?).map g'.2.1)))))
    rw [this]
  | .inr (.inr o) =>
    unfold ct_e
    have : ct_fv g f o.2 = ct_fv g' f o.2 := by
      funext j
      unfold ct_fv
      rw [List.getD_eq_getElem?_getD]
      cases e : o.2[j]? with
      | none => rfl
      | some x =>
        cases x with
        | none => rfl
        | some r => exact congrArg Value.ref (h r (List.mem_filterMap.mpr ⟨some r, List.mem_of_getElem? e, rfl⟩))
    show (Sum.inr (o.1, List.map (ct_fv g f o.2) (List.range o.2.length)) : _) = Sum.inr (o.1, List.map (ct_fv g' f o.2) (List.range o.2.length))
    rw [this]
def pj (p q : Nat → Nat) : Nat → Nat := fun i => if i < 30 then p i else q i
theorem kr_lo : ∀ i, i < 30 → ∀ r ∈ kref (shG.getD i (.inl (0, 0))), r < 30 := by decide +kernel
theorem kr_hi : ∀ i, i < 38 → ∀ r ∈ kref (shG.getD (30 + i) (.inl (0, 0))), 30 ≤ r := by decide +kernel
theorem w_app (D : va_G) (p q : Nat → Nat) (cA : Nat → ClassId) : (List.range 30).map (cellAt (D, p, cA)) ++ (List.range 38).map (fun i => cellAt (D, q, cA) (30 + i)) = ct_w (D, pj p q, cA) shG t0 := by
  have e1 : (List.range 30).map (cellAt (D, p, cA)) = (List.range 30).map (cellAt (D, pj p q, cA)) := by
    apply List.map_congr_left
    intro i hi
    have hi := List.mem_range.mp hi
    unfold cellAt
    rw [ct_e_congr (g := (D, p, cA)) (g' := (D, pj p q, cA)) rfl (fun r hr => (if_pos (kr_lo i hi r hr)).symm)]
    show (p i, _) = (pj p q i, _)
    rw [show pj p q i = p i from if_pos hi]
  have e2 : (List.range 38).map (fun i => cellAt (D, q, cA) (30 + i)) = (List.range 38).map (fun i => cellAt (D, pj p q, cA) (30 + i)) := by
    apply List.map_congr_left
    intro i hi
    have hi := List.mem_range.mp hi
    unfold cellAt
    rw [ct_e_congr (g := (D, q, cA)) (g' := (D, pj p q, cA)) rfl (fun r hr => (if_neg (Nat.not_lt.mpr (kr_hi i hi r hr))).symm)]
    show (q (30 + i), _) = (pj p q (30 + i), _)
    rw [show pj p q (30 + i) = q (30 + i) from if_neg (by omega)]
  rw [e1, e2]
  have e3 : ct_w (D, pj p q, cA) shG t0 = (List.range 68).map (cellAt (D, pj p q, cA)) := rfl
  rw [e3, show (68 : Nat) = 30 + 38 from rfl, List.range_add, List.map_append, List.map_map]
  rfl
