theorem lw_idx {big ws : List Cond} (ps : List Nat) (h : ws = ps.filterMap (fun i => big[i]?)) : ∀ w ∈ ws, w ∈ big := fun w hw => by
  rw [h] at hw
  obtain ⟨i, -, hi⟩ := List.mem_filterMap.mp hw
  exact List.mem_of_getElem? hi
theorem lwi_1 : ∀ w ∈ wsL_law_r1, w ∈ lw_tbl := lw_idx [58, 59, 46, 590, 591, 52, 917, 60, 61, 62, 63, 64, 65, 66, 67, 47, 221, 138, 139, 49, 222, 223, 158, 159] (by decide +kernel)
theorem lwi_2 : ∀ w ∈ wsL_law_r2, w ∈ lw_tbl := lw_idx [50, 224, 195, 196, 51, 225, 68, 69, 70, 71, 74, 75, 76, 77, 78, 80, 111, 110, 114, 81, 117, 83, 48, 85] (by decide +kernel)
theorem lwi_3 : ∀ w ∈ wsL_law_r3, w ∈ lw_tbl := lw_idx [86, 87, 140, 141, 142, 143, 144, 147, 146, 161, 162, 163, 167, 164, 177, 178, 179, 198, 199, 200, 201, 220, 207, 592] (by decide +kernel)
theorem lwi_4 : ∀ w ∈ wsL_law_r4, w ∈ lw_tbl := lw_idx [593, 594, 595, 596, 597, 599, 600, 601, 603, 604, 237, 238, 239, 240, 241, 242, 243, 244, 148, 245, 246, 247, 248, 249] (by decide +kernel)
theorem lwi_5 : ∀ w ∈ wsL_law_r5, w ∈ lw_tbl := lw_idx [251, 250, 53, 119, 121, 123, 252, 253, 254, 255, 88, 91, 93, 95, 96, 256, 257, 258, 259, 264, 266, 0, 267, 97] (by decide +kernel)
theorem lwi_6 : ∀ w ∈ wsL_law_r6, w ∈ lw_tbl := lw_idx [268, 270, 1, 271, 272, 273, 274, 275, 276, 277, 278, 279, 280, 281, 282, 283, 285, 286, 287, 288, 289, 290, 292, 293] (by decide +kernel)
theorem lwi_7 : ∀ w ∈ wsL_law_r7, w ∈ lw_tbl := lw_idx [294, 295, 296, 297, 298, 299, 54, 300, 302, 303, 304, 305, 149, 306, 307, 308, 645, 646, 647, 648, 649, 650, 651, 652] (by decide +kernel)
theorem lwi_8 : ∀ w ∈ wsL_law_r8, w ∈ lw_tbl := lw_idx [653, 654, 655, 657, 9, 658, 598, 659, 660, 661, 662, 664, 10, 665, 666, 668, 11, 669, 670, 672, 12, 673, 674, 676] (by decide +kernel)
theorem lwi_9 : ∀ w ∈ wsL_law_r9, w ∈ lw_tbl := lw_idx [13, 677, 678, 680, 14, 681, 682, 684, 15, 685, 686, 688, 16, 689, 690, 692, 17, 693, 694, 696, 18, 697, 698, 700] (by decide +kernel)
theorem lwi_10 : ∀ w ∈ wsL_law_r10, w ∈ lw_tbl := lw_idx [19, 701, 702, 704, 20, 705, 706, 707, 708, 709, 710, 711, 712, 713, 714, 715, 716, 717, 718, 309, 310, 311, 312, 313] (by decide +kernel)
theorem lwi_11 : ∀ w ∈ wsL_law_r11, w ∈ lw_tbl := lw_idx [314, 315, 316, 719, 720, 721, 722, 723, 725, 21, 726, 727, 729, 22, 730, 317, 318, 319, 320, 321, 322, 323, 324, 731] (by decide +kernel)
theorem lwi_12 : ∀ w ∈ wsL_law_r12, w ∈ lw_tbl := lw_idx [732, 733, 734, 325, 326, 327, 328, 329, 330, 331, 332, 333, 334, 335, 336, 337, 338, 339, 340, 735, 736, 737, 738, 739] (by decide +kernel)
theorem lwi_13 : ∀ w ∈ wsL_law_r13, w ∈ lw_tbl := lw_idx [741, 23, 742, 743, 745, 24, 746, 747, 749, 25, 750, 751, 753, 26, 754, 341, 342, 343, 344, 345, 346, 347, 348, 755] (by decide +kernel)
theorem lwi_14 : ∀ w ∈ wsL_law_r14, w ∈ lw_tbl := lw_idx [756, 757, 758, 349, 350, 351, 352, 353, 354, 355, 356, 357, 358, 359, 360, 759, 760, 761, 762, 763, 765, 27, 766, 767] (by decide +kernel)
theorem lwi_15 : ∀ w ∈ wsL_law_r15, w ∈ lw_tbl := lw_idx [768, 769, 770, 772, 28, 773, 361, 362, 363, 364, 365, 366, 367, 368, 89, 369, 370, 371, 372, 774, 775, 776, 777, 778] (by decide +kernel)
theorem lwi_16 : ∀ w ∈ wsL_law_r16, w ∈ lw_tbl := lw_idx [780, 29, 781, 373, 374, 375, 376, 377, 378, 379, 380, 173, 402, 403, 55, 381, 382, 383, 384, 118, 115, 112, 169, 385] (by decide +kernel)
theorem lwi_17 : ∀ w ∈ wsL_law_r17, w ∈ lw_tbl := lw_idx [386, 387, 388, 389, 390, 391, 392, 393, 92, 94, 172, 175, 401, 394, 395, 396, 397, 398, 399, 404, 405, 406, 407, 166] (by decide +kernel)
theorem lwi_18 : ∀ w ∈ wsL_law_r18, w ∈ lw_tbl := lw_idx [168, 415, 171, 417, 419, 408, 409, 56, 410, 411, 412, 413, 414, 782, 783, 784, 785, 786, 788, 30, 789, 790, 792, 31] (by decide +kernel)
theorem lwi_19 : ∀ w ∈ wsL_law_r19, w ∈ lw_tbl := lw_idx [793, 605, 794, 796, 32, 797, 606, 798, 800, 33, 801, 802, 803, 804, 428, 429, 430, 431, 116, 432, 433, 434, 805, 806] (by decide +kernel)
theorem lwi_20 : ∀ w ∈ wsL_law_r20, w ∈ lw_tbl := lw_idx [807, 808, 809, 811, 34, 812, 435, 436, 437, 438, 439, 440, 441, 442, 443, 418, 420, 444, 813, 814, 815, 816, 445, 446] (by decide +kernel)
theorem lwi_21 : ∀ w ∈ wsL_law_r21, w ∈ lw_tbl := lw_idx [447, 448, 98, 416, 817, 818, 819, 820, 449, 450, 451, 452, 120, 124, 122, 113, 206, 150, 453, 454, 455, 456, 457, 458] (by decide +kernel)
theorem lwi_22 : ∀ w ∈ wsL_law_r22, w ∈ lw_tbl := lw_idx [459, 821, 822, 823, 824, 602, 825, 827, 35, 828, 460, 461, 462, 463, 464, 829, 830, 831, 832, 465, 466, 467, 468, 469] (by decide +kernel)
theorem lwi_23 : ∀ w ∈ wsL_law_r23, w ∈ lw_tbl := lw_idx [470, 471, 472, 473, 474, 475, 476, 57, 477, 478, 479, 480, 481, 483, 2, 484, 833, 834, 835, 836, 837, 838, 839, 485] (by decide +kernel)
theorem lwi_24 : ∀ w ∈ wsL_law_r24, w ∈ lw_tbl := lw_idx [486, 487, 488, 90, 174, 176, 170, 489, 490, 840, 841, 842, 843, 491, 492, 493, 494, 495, 844, 845, 846, 847, 496, 497] (by decide +kernel)
theorem lwi_25 : ∀ w ∈ wsL_law_r25, w ∈ lw_tbl := lw_idx [498, 499, 500, 501, 848, 849, 850, 851, 502, 503, 504, 505, 506, 507, 508, 509, 205, 513, 510, 511, 512, 514, 515, 852] (by decide +kernel)
theorem lwi_26 : ∀ w ∈ wsL_law_r26, w ∈ lw_tbl := lw_idx [853, 854, 855, 856, 516, 517, 518, 519, 520, 521, 522, 523, 857, 858, 859, 860, 524, 525, 526, 527, 528, 529, 530, 531] (by decide +kernel)
theorem lwi_27 : ∀ w ∈ wsL_law_r27, w ∈ lw_tbl := lw_idx [208, 532, 533, 534, 535, 536, 537, 538, 539, 203, 540, 542, 3, 543, 544, 546, 4, 547, 548, 550, 5, 551, 552, 553] (by decide +kernel)
theorem lwi_28 : ∀ w ∈ wsL_law_r28, w ∈ lw_tbl := lw_idx [554, 555, 557, 6, 558, 559, 561, 7, 562, 861, 862, 863, 864, 865, 867, 36, 868, 607, 869, 871, 37, 872, 608, 609] (by decide +kernel)
theorem lwi_29 : ∀ w ∈ wsL_law_r29, w ∈ lw_tbl := lw_idx [873, 875, 38, 876, 877, 879, 39, 880, 881, 883, 40, 884, 885, 887, 41, 888, 610, 611, 889, 891, 42, 892, 563, 564] (by decide +kernel)
theorem lwi_30 : ∀ w ∈ wsL_law_r30, w ∈ lw_tbl := lw_idx [565, 566, 567, 568, 569, 571, 8, 572, 202, 204, 893, 894, 895, 896, 897, 899, 43, 900, 901, 903, 44, 904, 573, 574] (by decide +kernel)
theorem lwi_31 : ∀ w ∈ wsL_law_r31, w ∈ lw_tbl := lw_idx [575, 576, 577, 578, 579, 580, 905, 906, 907, 908, 581, 582, 583, 584, 585, 909, 910, 911, 912, 586, 587, 588, 589, 913] (by decide +kernel)
theorem lwi_32 : ∀ w ∈ wsL_law_r32, w ∈ lw_tbl := lw_idx [914, 915, 916] (by decide +kernel)
theorem lwx_0 : ∀ w ∈ wsX00, w ∈ lw_tbl := lw_idx [421, 423, 425] (by decide +kernel)
theorem lwx_1 : ∀ w ∈ wsX10, w ∈ lw_tbl := lw_idx [99, 101, 103, 105, 107] (by decide +kernel)
theorem lwx_2 : ∀ w ∈ wsX20, w ∈ lw_tbl := lw_idx [151, 153, 155] (by decide +kernel)
theorem lwx_3 : ∀ w ∈ wsX30, w ∈ lw_tbl := lw_idx [209, 211, 213, 215, 217] (by decide +kernel)
theorem lwx_4 : ∀ w ∈ wsX40, w ∈ lw_tbl := lw_idx [125, 127, 129, 131, 133, 135] (by decide +kernel)
theorem lwx_5 : ∀ w ∈ wsX50, w ∈ lw_tbl := lw_idx [180, 182, 184, 186, 188, 190, 192] (by decide +kernel)
theorem lwx_6 : ∀ w ∈ wsX60, w ∈ lw_tbl := lw_idx [226, 228, 230, 232, 234] (by decide +kernel)
theorem lwx_7 : ∀ w ∈ wsX70, w ∈ lw_tbl := lw_idx [612, 614, 616, 618, 620, 622, 624, 626, 628, 630, 632, 634, 636, 638, 640, 642] (by decide +kernel)
theorem lwi_nil : ∀ w ∈ ([] : List Cond), w ∈ lw_tbl := fun w h => by cases h
theorem lw_ap {a b big : List Cond} (h1 : ∀ w ∈ a, w ∈ big) (h2 : ∀ w ∈ b, w ∈ big) : ∀ w ∈ a ++ b, w ∈ big := fun w h => by
  rcases List.mem_append.mp h with h | h
  · exact h1 w h
  · exact h2 w h
theorem wsL_law_in : ∀ w ∈ wsL_law, w ∈ lw_tbl := (lw_ap (lw_ap (lw_ap (lw_ap (lw_ap (lw_ap (lw_ap (lw_ap (lw_ap (lw_ap lwi_1 (lw_ap lwi_2 (lw_ap lwi_3 (lw_ap lwi_4 (lw_ap lwi_5 (lw_ap lwi_6 (lw_ap lwi_7 (lw_ap lwi_8 (lw_ap lwi_9 (lw_ap lwi_10 (lw_ap lwi_11 (lw_ap lwi_12 (lw_ap lwi_13 (lw_ap lwi_14 (lw_ap lwi_15 (lw_ap lwi_16 (lw_ap lwi_17 (lw_ap lwi_18 (lw_ap lwi_19 (lw_ap lwi_20 (lw_ap lwi_21 (lw_ap lwi_22 (lw_ap lwi_23 (lw_ap lwi_24 (lw_ap lwi_25 (lw_ap lwi_26 (lw_ap lwi_27 (lw_ap lwi_28 (lw_ap lwi_29 (lw_ap lwi_30 (lw_ap lwi_31 lwi_32))))))))))))))))))))))))))))))) lwx_6) lwx_7) lwx_4) lwx_2) lwx_5) lwx_3) lwx_1) lwx_0) lwi_nil)
theorem lw_len {args : Array Value} {s : State} {t : Term} {v : Value} (h : (Term.length t).eval args s none [] s = some v) : ∃ (a : Nat) (cell : Cell), t.eval args s none [] s = some (.ref a) ∧ s.arrayAt? a = some cell ∧ cell.slots.size < 2147483648 := by
  simp only [Term.eval, Option.bind_eq_bind] at h
  cases ht : t.eval args s none [] s with
  | none => simp [ht] at h
  | some x =>
    cases x <;> simp [ht] at h
    case ref a =>
      obtain ⟨cell, hcell, h⟩ := Option.bind_eq_some_iff.mp h
      by_cases hn : cell.slots.size < 2147483648
      · exact ⟨a, cell, rfl, hcell, hn⟩
      · rw [if_neg hn] at h; cases h
/-- a static array of the class at the law's start -/
theorem lw_sta {b : Nat} {s : State} (hts : ∀ w ∈ lw_tbl, w.before #[Value.ref b] s = true) (hgv : (Jvm.Cond.and given_1 narrow_1).before #[Value.ref b] s = true) {n : String} {f : Nat → Int} (h1 : Cond.laysStatic RX6 n "[I" ∈ lw_tbl) (h2 : Cond.initialized RX6 ∈ lw_tbl) (g1 : Cond.arrayOf (Term.static RX6 n "[I") .int ∈ flatC (Jvm.Cond.and given_1 narrow_1)) (g2 : Cond.eq (Term.length (Term.static RX6 n "[I")) (Term.int (Int32.ofNat 3)) ∈ flatC (Jvm.Cond.and given_1 narrow_1)) (g3 : ∀ j : Nat, j < 3 → Cond.eq (Term.elem (Term.static RX6 n "[I") (Term.int (Int32.ofNat j))) (Term.int (zI (f j))) ∈ flatC (Jvm.Cond.and given_1 narrow_1)) (g4 : Cond.exactly (Term.static RX6 n "[I") "[I" ∈ flatC (Jvm.Cond.and given_1 narrow_1)) : zsta s s.heap n f := by
  have hs := flat_of_before _ hgv
  have hA : ∀ a : Nat, a < s.heap.size → ¬ s.heap.size ≤ a := fun a h => by omega
  obtain ⟨t, ht, hT⟩ := va_Tof (ty := .int) (N := 3) (f := fun j => Value.int (zI (f j))) (A := fun q => s.heap.size ≤ q) (by decide) (hs _ g1) (va_eqt (hs _ g2)) (fun j hj => va_eqt (hs _ (g3 j hj))) hA
  obtain ⟨a, cc, cell, k, e1, e2, e3, e4, e5, e6, -⟩ := Cond.exactly_spec (hs _ g4)
  have ha : a = t := by rw [ht] at e1; cases e1; rfl
  subst ha
  obtain ⟨cell2, q1, q2, q3, q4, q5, q6, q7⟩ := hT
  have hc : cell2 = cell := by rw [q1] at e3; cases e3; rfl
  subst hc
  obtain ⟨a3, cell3, l1, l2, l3⟩ := lw_len (va_eqt (hs _ g2))
  have ha3 : a3 = a := by rw [ht] at l1; cases l1; rfl
  subst ha3
  have hc3 : cell3 = cell2 := by
    have := (State.arrayAt?_spec l2).1
    rw [q1] at this; cases this; rfl
  subst hc3
  have q9 : zI ((cell3.slots.size : Nat) : Int) = zI ((3 : Nat) : Int) := q5
  have q8 := (zI_eq ⟨by omega, by omega⟩ ⟨by omega, by omega⟩).mp q9
  exact ⟨a3, va_Zref (hts _ h1) (hts _ h2) ht hA, cell3, q1, ⟨e5, q3⟩, q2, by rw [e6]; exact e2, by omega, fun j hj => q6 j hj⟩
theorem lw_D {s : State} {args : Array Value} (hw : ∀ w ∈ wsL_law, w.before args s = true) : ∃ D : va_G, ∀ (c : Nat) (q : vw_C), vwCl[c]? = some q → u_Kn s q.1 q.2.1 q.2.2 (D.1 c) (D.2 c) := by
  have h8 : ∀ (c : Nat) (q : vw_C), vwCl[c]? = some q → ∃ (cC : ClassId) (iS : Nat → Nat), u_Kn s q.1 q.2.1 q.2.2 cC iS := fun c q h => match c, h with
    | 0, h => by
      obtain rfl : (RX0, TX0, 3) = q := Option.some.inj h
      exact u_known hw wl_0 (hw _ wq_16_13)
    | 1, h => by
      obtain rfl : (RX1, TX1, 5) = q := Option.some.inj h
      exact u_known hw wl_1 (hw _ wq_2_21)
    | 2, h => by
      obtain rfl : (RX2, TX2, 3) = q := Option.some.inj h
      exact u_known hw wl_2 (hw _ wq_1_18)
    | 3, h => by
      obtain rfl : (RX3, TX3, 5) = q := Option.some.inj h
      exact u_known hw wl_3 (hw _ wq_2_3)
    | 4, h => by
      obtain rfl : (RX4, TX4, 6) = q := Option.some.inj h
      exact u_known hw wl_4 (hw _ wq_1_14)
    | 5, h => by
      obtain rfl : (RX5, TX5, 7) = q := Option.some.inj h
      exact u_known hw wl_5 (hw _ wq_1_23)
    | 6, h => by
      obtain rfl : (RX6, TX6, 5) = q := Option.some.inj h
      exact u_known hw wl_6 (hw _ wq_1_1)
    | 7, h => by
      obtain rfl : (RX7, TX7, 16) = q := Option.some.inj h
      exact u_known hw wl_7 (hw _ wq_1_4)
    | c + 8, h => by
      have e : vwCl[c + 8]? = none := rfl
      rw [e] at h; cases h
  have h9 : ∀ c : Nat, ∃ (cC : ClassId) (iS : Nat → Nat), ∀ q : vw_C, vwCl[c]? = some q → u_Kn s q.1 q.2.1 q.2.2 cC iS := fun c => by
    cases hq : vwCl[c]? with
    | none => exact ⟨0, fun _ => 0, fun q e => by cases e⟩
    | some q =>
      obtain ⟨cC, iS, h⟩ := h8 c q hq
      exact ⟨cC, iS, fun q2 e => by cases e; exact h⟩
  exact ⟨(fun c => (h9 c).choose, fun c => (h9 c).choose_spec.choose), fun c q hq => (h9 c).choose_spec.choose_spec q hq⟩
theorem lw_arrP {s : State} {args : Array Value} {ty : FieldType} (h : (Cond.arrayClass ty).before args s = true) : ∃ c : ClassId, ArrOfT s c ty ∧ s.vm.findClass ("[" ++ ty.toString) = some c := by
  obtain ⟨c, k, comp, h1, h2, h3⟩ := Cond.arrayClass_spec h
  exact ⟨c, fun n z => ⟨fun k h => (by cases h), k, h2, comp, h3⟩, h1⟩
theorem lw_arrO {s : State} {args : Array Value} {C : String} (h : (Cond.arrayOver (.object C)).before args s = true) : ∃ c : ClassId, ArrOfT s c (.object C) ∧ va_RA s c (.object C) := by
  obtain ⟨comp, c, k, h1, h2, h3, h4, h5⟩ := Cond.arrayOver_spec h
  exact ⟨c, fun n z => ⟨fun k h => (by cases h), k, h3, comp, h4⟩, ⟨k, comp, h3, h4, h1, h5⟩⟩
theorem lw_Wv {b : Nat} {s : State} (hts : ∀ w ∈ lw_tbl, w.before #[Value.ref b] s = true) (hgv : (Jvm.Cond.and given_1 narrow_1).before #[Value.ref b] s = true) : ∃ G : GG, G.2.2 = s.heap ∧ Wv G s := by
  have hw : ∀ w ∈ wsL_law, w.before #[Value.ref b] s = true := fun w h => hts w (wsL_law_in w h)
  obtain ⟨D, hD⟩ := lw_D hw
  obtain ⟨c0, a0, r0⟩ := lw_arrP (ty := .char) (hw _ wq_3_21)
  obtain ⟨c1, a1, r1⟩ := lw_arrP (ty := .int) (hw _ wq_2_17)
  obtain ⟨c2, a2, r2⟩ := lw_arrO (C := RX1) (hts _ (List.mem_of_getElem? (i := 82) (by decide +kernel)))
  obtain ⟨c3, a3, r3⟩ := lw_arrO (C := RX4) (hts _ (List.mem_of_getElem? (i := 145) (by decide +kernel)))
  have hK : ∀ (k : Nat) (q : ClassId × FieldType), (ztys (fun k => match k with | 0 => c0 | 1 => c1 | 2 => c2 | _ => c3))[k]? = some q → ArrOfT s q.1 q.2 ∧ va_RA s q.1 q.2 := fun k q h => match k, h with
    | 0, h => by
      obtain rfl : (c0, FieldType.char) = q := Option.some.inj h
      exact ⟨a0, r0⟩
    | 1, h => by
      obtain rfl : (c1, FieldType.int) = q := Option.some.inj h
      exact ⟨a1, r1⟩
    | 2, h => by
      obtain rfl : (c2, FieldType.object RX1) = q := Option.some.inj h
      exact ⟨a2, r2⟩
    | 3, h => by
      obtain rfl : (c3, FieldType.object RX4) = q := Option.some.inj h
      exact ⟨a3, r3⟩
    | k + 4, h => by
      have e : (ztys (fun k => match k with | 0 => c0 | 1 => c1 | 2 => c2 | _ => c3))[k + 4]? = none := rfl
      rw [e] at h; cases h
  refine ⟨(D, (fun k => match k with | 0 => c0 | 1 => c1 | 2 => c2 | _ => c3), s.heap), rfl, ⟨hD, hK⟩, ⟨?_, ?_, ?_⟩, fun w h => ?_, fun w h => ?_, va_Nw.of rfl (hts _ (List.mem_of_getElem? (i := 79) (by decide +kernel))), va_AO.of (hts _ (List.mem_of_getElem? (i := 82) (by decide +kernel))), va_AO.of (hts _ (List.mem_of_getElem? (i := 145) (by decide +kernel)))⟩
  · exact lw_sta hts hgv (n := "AT_FIRST") (f := zF0) (List.mem_of_getElem? (i := 73) (by decide +kernel)) (List.mem_of_getElem? (i := 46) (by decide +kernel)) (by decide +kernel) (by decide +kernel) (fun j hj => by rcases (show j = 0 ∨ j = 1 ∨ j = 2 by omega) with e | e | e <;> subst e <;> decide +kernel) (by decide +kernel)
  · exact lw_sta hts hgv (n := "LEAST") (f := zF1) (List.mem_of_getElem? (i := 261) (by decide +kernel)) (List.mem_of_getElem? (i := 46) (by decide +kernel)) (by decide +kernel) (by decide +kernel) (fun j hj => by rcases (show j = 0 ∨ j = 1 ∨ j = 2 by omega) with e | e | e <;> subst e <;> decide +kernel) (by decide +kernel)
  · exact lw_sta hts hgv (n := "MOST") (f := zF2) (List.mem_of_getElem? (i := 263) (by decide +kernel)) (List.mem_of_getElem? (i := 46) (by decide +kernel)) (by decide +kernel) (by decide +kernel) (fun j hj => by rcases (show j = 0 ∨ j = 1 ∨ j = 2 by omega) with e | e | e <;> subst e <;> decide +kernel) (by decide +kernel)
  · simp only [znwF, List.mem_cons, List.not_mem_nil, or_false] at h
    rcases h with e | e | e
    · subst e; exact va_Nw.of rfl (hts _ (List.mem_of_getElem? (i := 72) (by decide +kernel)))
    · subst e; exact va_Nw.of rfl (hts _ (List.mem_of_getElem? (i := 260) (by decide +kernel)))
    · subst e; exact va_Nw.of rfl (hts _ (List.mem_of_getElem? (i := 262) (by decide +kernel)))
  · simp only [znwM, List.mem_cons, List.not_mem_nil, or_false] at h
    rcases h with e | e | e | e | e | e | e | e
    · subst e; exact va_Nw.of rfl (hts _ (List.mem_of_getElem? (i := 160) (by decide +kernel)))
    · subst e; exact va_Nw.of rfl (hts _ (List.mem_of_getElem? (i := 197) (by decide +kernel)))
    · subst e; exact va_Nw.of rfl (hts _ (List.mem_of_getElem? (i := 301) (by decide +kernel)))
    · subst e; exact va_Nw.of rfl (hts _ (List.mem_of_getElem? (i := 400) (by decide +kernel)))
    · subst e; exact va_Nw.of rfl (hts _ (List.mem_of_getElem? (i := 284) (by decide +kernel)))
    · subst e; exact va_Nw.of rfl (hts _ (List.mem_of_getElem? (i := 291) (by decide +kernel)))
    · subst e; exact va_Nw.of rfl (hts _ (List.mem_of_getElem? (i := 84) (by decide +kernel)))
    · subst e; exact va_Nw.of rfl (hts _ (List.mem_of_getElem? (i := 165) (by decide +kernel)))
