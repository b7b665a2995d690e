/-! The tables' facts, as the machine's rows ask for them. -/
theorem ai_zip {l : List Cond} {ps : List Nat} (hl : l.length ≤ ps.length) (h : (l.zip ps).all (fun q => decide (lw_tbl[q.2]? = some q.1) && goodWord q.1) = true) {w : Cond} (hw : w ∈ l) : w ∈ lw_tbl ∧ goodWord w = true := by
  obtain ⟨i, hi⟩ := List.getElem?_of_mem hw
  have hil : i < l.length := (List.getElem?_eq_some_iff.mp hi).1
  have hip : i < ps.length := by omega
  have hz : (w, ps[i]) ∈ l.zip ps := by
    apply List.mem_of_getElem? (i := i)
    rw [List.getElem?_zip_eq_some]
    exact ⟨hi, List.getElem?_eq_getElem hip⟩
  have h1 := List.all_eq_true.mp h _ hz
  simp only [Bool.and_eq_true, decide_eq_true_eq] at h1
  exact ⟨List.mem_of_getElem? h1.1, h1.2⟩
def ai_p1 : List Nat := [97, 387, 399, 403, 407, 411, 415, 431, 435, 439, 452, 555, 567, 628, 829, 859, 122, 391, 394, 559, 563, 852, 209, 443, 589, 633, 637, 726, 738, 743, 747, 761, 289, 765, 769, 775, 779, 783, 787, 791, 795, 800, 804, 808, 812, 816, 821, 138, 423, 427, 614, 730, 756, 190, 419, 584, 609, 641, 647, 752, 261, 686, 695, 701, 706, 711, 716, 720, 217, 593, 600, 605, 234, 651, 656, 665, 675, 734, 105, 524, 528, 548, 571, 660, 144, 575, 579, 618, 671, 679, 690, 446, 551, 624, 824, 855, 865, 952, 956, 960, 964, 967, 972, 976, 980, 984, 988, 992, 996, 1000, 1004, 1008, 1012, 1016, 1020, 1024, 1028, 1032, 1036, 1040, 1044, 1048, 1052, 1056, 1060, 1064, 1068, 1072, 1076, 1080, 1084, 1088, 1092, 1096, 1100, 1104, 1108, 1112, 1116, 1120, 1124, 1128, 1131, 1135, 1139, 1143, 1147, 1151, 1155, 1159, 1163, 1167, 1171, 1174, 1178, 1182, 1186, 1190, 596]
set_option maxRecDepth 100000 in
theorem ai_pl1 : ai_w1.length ≤ ai_p1.length := by decide +kernel
set_option maxRecDepth 100000 in
theorem ai_pk1 : (ai_w1.zip ai_p1).all (fun q => decide (lw_tbl[q.2]? = some q.1) && goodWord q.1) = true := by decide +kernel
def ai_p2 : List Nat := [375, 377, 379, 381, 110, 112, 114, 128, 130, 179, 181, 160, 162, 346, 348, 350, 352, 354, 356, 358, 360, 362, 364, 366, 368, 202, 204, 221, 223, 244, 246, 248, 250, 252, 254, 271, 273, 275, 277, 279, 281, 303, 305, 307, 309, 311, 313, 315, 317, 319, 321, 323, 325, 894, 896, 898, 900, 902, 904, 906, 908, 910, 912, 914, 916, 918, 920, 922, 924, 926, 928, 930, 932, 934, 936, 938, 940, 942, 944, 946]
set_option maxRecDepth 100000 in
theorem ai_pl2 : ai_w2.length ≤ ai_p2.length := by decide +kernel
set_option maxRecDepth 100000 in
theorem ai_pk2 : (ai_w2.zip ai_p2).all (fun q => decide (lw_tbl[q.2]? = some q.1) && goodWord q.1) = true := by decide +kernel
def ai_p3 : List Nat := [371, 372, 373, 374, 124, 126, 330, 332, 338, 339, 340, 341, 342, 344, 328, 333, 335, 337, 292, 293, 294, 295, 296, 297, 298, 299, 300, 301, 302, 291, 165, 172, 198, 195, 266, 267, 268, 269, 270, 265, 219, 220, 240, 241, 242, 243, 238, 239, 107, 108, 109, 146, 153, 868, 869, 872, 874, 875, 876, 879, 880, 881, 884, 885, 886, 887, 888, 889, 890, 891, 892, 893, 867, 870, 871, 877, 873, 882, 878, 883]
set_option maxRecDepth 100000 in
theorem ai_pl3 : ai_w3.length ≤ ai_p3.length := by decide +kernel
set_option maxRecDepth 100000 in
theorem ai_pk3 : (ai_w3.zip ai_p3).all (fun q => decide (lw_tbl[q.2]? = some q.1) && goodWord q.1) = true := by decide +kernel
def ai_p4 : List Nat := [104, 74, 121, 75, 137, 76, 188, 189, 79, 207, 208, 78, 521, 522, 523, 74, 545, 546, 547, 74, 388, 389, 390, 75, 556, 557, 558, 75, 581, 582, 583, 79, 586, 587, 588, 78, 630, 631, 632, 78, 634, 635, 636, 78, 416, 417, 418, 79, 830, 561, 562, 75, 832, 649, 650, 81, 849, 850, 851, 75, 860, 684, 685, 82, 440, 441, 442, 78, 392, 393, 75, 560, 561, 562, 75, 564, 522, 523, 74, 566, 73, 568, 569, 570, 74, 572, 573, 574, 77, 576, 577, 578, 77, 212, 189, 79, 216, 80, 137, 76, 143, 77, 232, 233, 81, 259, 260, 82, 287, 288, 83, 590, 591, 592, 80, 606, 607, 608, 79, 638, 639, 640, 79, 643, 612, 613, 76, 644, 645, 646, 79, 648, 649, 650, 81, 683, 684, 685, 82, 722, 582, 583, 79, 723, 725, 12, 78, 735, 737, 13, 78, 740, 742, 14, 78, 758, 760, 16, 78, 727, 728, 729, 76, 731, 732, 733, 81, 739, 616, 617, 77, 744, 746, 15, 78, 762, 763, 764, 83, 772, 773, 774, 83, 748, 688, 689, 77, 749, 750, 751, 79, 766, 768, 17, 83, 566, 73, 771, 658, 659, 74, 776, 778, 18, 83, 797, 799, 23, 83, 809, 811, 26, 83, 780, 782, 19, 83, 784, 786, 20, 83, 788, 790, 21, 83, 792, 794, 22, 83, 796, 569, 570, 74, 801, 803, 24, 83, 805, 807, 25, 83, 813, 815, 27, 83, 817, 573, 574, 77, 818, 820, 28, 83, 143, 77, 615, 616, 617, 77, 757, 688, 689, 77, 424, 425, 426, 76, 137, 76, 610, 582, 583, 79, 611, 612, 613, 76, 753, 754, 755, 76, 642, 425, 426, 76, 420, 421, 422, 76, 143, 77, 687, 688, 689, 77, 692, 694, 6, 82, 696, 616, 617, 77, 697, 658, 659, 74, 698, 700, 7, 82, 708, 710, 9, 82, 702, 569, 570, 74, 703, 705, 8, 82, 566, 73, 713, 715, 10, 82, 717, 719, 11, 82, 721, 526, 527, 74, 707, 669, 670, 77, 594, 595, 90, 597, 599, 1, 80, 566, 73, 602, 604, 2, 80, 143, 77, 652, 577, 578, 77, 653, 655, 3, 81, 672, 674, 5, 81, 657, 658, 659, 74, 662, 664, 4, 81, 666, 595, 90, 566, 73, 668, 669, 670, 77, 676, 677, 678, 77, 681, 573, 574, 77, 682, 616, 617, 77, 525, 526, 527, 74, 661, 569, 570, 74, 680, 573, 574, 77, 691, 669, 670, 77, 449, 450, 451, 73, 552, 553, 554, 73, 625, 626, 627, 73, 826, 827, 828, 73, 856, 857, 858, 73, 957, 959, 29, 84, 965, 966, 84, 989, 991, 32, 84, 993, 995, 33, 84, 997, 999, 34, 84, 985, 987, 31, 84, 1053, 1055, 47, 84, 1117, 1119, 63, 84, 1041, 1043, 44, 84, 1045, 1047, 45, 84, 1037, 1039, 43, 84, 1049, 1051, 46, 84, 1033, 1035, 42, 84, 1069, 1071, 51, 84, 1073, 1075, 52, 84, 1077, 1079, 53, 84, 1065, 1067, 50, 84, 1029, 1031, 41, 84, 1057, 1059, 48, 84, 1001, 1003, 35, 84, 1113, 1115, 62, 84, 1081, 1083, 54, 84, 1005, 1007, 36, 84, 1129, 1130, 84, 1136, 1138, 67, 84, 1144, 1146, 69, 84, 1140, 1142, 68, 84, 1125, 1127, 65, 84, 1132, 1134, 66, 84, 1148, 1150, 70, 84, 1109, 1111, 61, 84, 1097, 1099, 58, 84, 1101, 1103, 59, 84, 1089, 1091, 56, 84, 1093, 1095, 57, 84, 1105, 1107, 60, 84, 1021, 1023, 39, 84, 1121, 1123, 64, 84, 1017, 1019, 38, 84, 1025, 1027, 40, 84, 1061, 1063, 49, 84, 1085, 1087, 55, 84, 981, 983, 30, 84, 1013, 1015, 37, 84, 1172, 1173, 84, 1168, 1170, 71, 84, 95, 96, 73, 863, 864, 84, 444, 445, 72, 953, 954, 955, 84, 949, 950, 951, 84, 384, 385, 386, 73, 961, 962, 963, 84, 396, 397, 398, 73, 969, 970, 971, 84, 549, 550, 72, 977, 978, 979, 84, 622, 623, 72, 1009, 1010, 1011, 84, 400, 401, 402, 73, 1152, 1153, 1154, 84, 404, 405, 406, 73, 1156, 1157, 1158, 84, 408, 409, 410, 73, 1160, 1161, 1162, 84, 412, 413, 414, 73, 1164, 1165, 1166, 84, 428, 429, 430, 73, 1175, 1176, 1177, 84, 822, 823, 72, 1179, 1180, 1181, 84, 853, 854, 72, 1183, 1184, 1185, 84, 432, 433, 434, 73, 973, 974, 975, 84, 436, 437, 438, 73, 1187, 1188, 1189, 84]
set_option maxRecDepth 100000 in
theorem ai_pl4 : ai_w4.length ≤ ai_p4.length := by decide +kernel
set_option maxRecDepth 100000 in
theorem ai_pk4 : (ai_w4.zip ai_p4).all (fun q => decide (lw_tbl[q.2]? = some q.1) && goodWord q.1) = true := by decide +kernel
def ai_p5 : List Nat := [101, 102, 74, 118, 119, 75, 134, 135, 76, 184, 185, 78, 186, 187, 79, 211, 187, 79, 213, 214, 80, 226, 135, 76, 228, 141, 77, 230, 231, 81, 257, 258, 82, 285, 286, 83, 140, 141, 77, 192, 135, 76, 263, 141, 77, 236, 141, 77, 93, 94, 73, 861, 862, 84]
set_option maxRecDepth 100000 in
theorem ai_pl5 : ai_w5.length ≤ ai_p5.length := by decide +kernel
set_option maxRecDepth 100000 in
theorem ai_pk5 : (ai_w5.zip ai_p5).all (fun q => decide (lw_tbl[q.2]? = some q.1) && goodWord q.1) = true := by decide +kernel
def ai_p6 : List Nat := [192, 117, 133, 284, 1192, 395, 968, 1191, 98, 123, 210, 290, 139, 191, 262, 218, 235, 106, 145, 866, 99, 100, 619, 621, 620, 91]
set_option maxRecDepth 100000 in
theorem ai_pl6 : ai_w6.length ≤ ai_p6.length := by decide +kernel
set_option maxRecDepth 100000 in
theorem ai_pk6 : (ai_w6.zip ai_p6).all (fun q => decide (lw_tbl[q.2]? = some q.1) && goodWord q.1) = true := by decide +kernel
theorem ai_in {w : Cond} (h : w ∈ ai_ws) : w ∈ lw_tbl ∧ goodWord w = true := by
  unfold ai_ws at h
  rcases List.mem_append.mp h with h | h
  · exact ai_zip ai_pl1 ai_pk1 h
  rcases List.mem_append.mp h with h | h
  · exact ai_zip ai_pl2 ai_pk2 h
  rcases List.mem_append.mp h with h | h
  · exact ai_zip ai_pl3 ai_pk3 h
  rcases List.mem_append.mp h with h | h
  · exact ai_zip ai_pl4 ai_pk4 h
  rcases List.mem_append.mp h with h | h
  · exact ai_zip ai_pl5 ai_pk5 h
  · exact ai_zip ai_pl6 ai_pk6 h
theorem ai_good (w : Cond) (h : w ∈ ai_ws) : (w.onTables && w.keeps) = true ∨ ∃ ty, w = .arrayClass ty := good_of_word (ai_in h).2
theorem ai_ws1 {w : Cond} (h : w ∈ ai_w1) : w ∈ ai_ws := List.mem_append_left _ h
theorem ai_ws2 {w : Cond} (h : w ∈ ai_w2) : w ∈ ai_ws := List.mem_append_right _ (List.mem_append_left _ h)
theorem ai_ws3 {w : Cond} (h : w ∈ ai_w3) : w ∈ ai_ws := List.mem_append_right _ (List.mem_append_right _ (List.mem_append_left _ h))
theorem ai_ws4 {w : Cond} (h : w ∈ ai_w4) : w ∈ ai_ws := List.mem_append_right _ (List.mem_append_right _ (List.mem_append_right _ (List.mem_append_left _ h)))
theorem ai_ws5 {w : Cond} (h : w ∈ ai_w5) : w ∈ ai_ws := List.mem_append_right _ (List.mem_append_right _ (List.mem_append_right _ (List.mem_append_right _ (List.mem_append_left _ h))))
theorem ai_ws6 {w : Cond} (h : w ∈ ai_w6) : w ∈ ai_ws := List.mem_append_right _ (List.mem_append_right _ (List.mem_append_right _ (List.mem_append_right _ (List.mem_append_right _ h))))
theorem ai_lookN {β : Type} {l : List (Nat × β)} {a : Nat} {x : β} (h : l.lookup a = some x) : (a, x) ∈ l := by
  induction l with
  | nil => cases h
  | cons q l ih =>
    obtain ⟨k, v⟩ := q
    rw [List.lookup_cons] at h
    by_cases hk : a = k
    · subst hk
      simp only [beq_self_eq_true] at h
      cases h
      exact List.mem_cons_self
    · have : (a == k) = false := by simpa using hk
      simp only [this] at h
      exact List.mem_cons_of_mem _ (ih h)
theorem ai_lookP {β : Type} {l : List ((Nat × Nat) × β)} {a : Nat × Nat} {x : β} (h : l.lookup a = some x) : (a, x) ∈ l := by
  induction l with
  | nil => cases h
  | cons q l ih =>
    obtain ⟨k, v⟩ := q
    rw [List.lookup_cons] at h
    by_cases hk : a = k
    · subst hk
      simp only [beq_self_eq_true] at h
      cases h
      exact List.mem_cons_self
    · have : (a == k) = false := by simpa using hk
      simp only [this] at h
      exact List.mem_cons_of_mem _ (ih h)
theorem ai_dec {M : ai_M} {pc len : Nat} {i : Instr} (hM : M ∈ ai_MT) (h : ai_at M pc = some (i, len)) : decode (ai_cc M) pc = .ok (i, len) ∧ ((∀ a b c d, i ≠ .tableswitch a b c d) → len = ai_len i) ∧ (∀ off, i = .goto off → 0 ≤ (pc : Int) + off) ∧ (∀ cd off, i = .ifCond cd off → 0 ≤ (pc : Int) + off) ∧ (∀ cd off, i = .if_icmp cd off → 0 ≤ (pc : Int) + off) ∧ (∀ a b c d, i = .tableswitch a b c d → 0 ≤ (pc : Int) + a ∧ ∀ (j : Nat) (off : Int), d[j]? = some off → 0 ≤ (pc : Int) + off) := by
  have h1 := List.all_eq_true.mp (ai_chks M hM) _ (ai_lookN h)
  simp only [Bool.and_eq_true, decide_eq_true_eq, Bool.or_eq_true, beq_iff_eq] at h1
  obtain ⟨⟨h2, h3⟩, h4⟩ := h1
  refine ⟨h2, fun hn => ?_, ?_, ?_, ?_, ?_⟩
  · rcases h3 with h3 | h3
    · cases i <;> simp [ai_isSw] at h3
      exact absurd rfl (hn _ _ _ _)
    · exact h3
  · rintro off rfl
    simpa [ai_tgt] using h4
  · rintro cd off rfl
    simpa [ai_tgt] using h4
  · rintro cd off rfl
    simpa [ai_tgt] using h4
  · rintro a b c d rfl
    simp only [ai_tgt, Bool.and_eq_true, decide_eq_true_eq, List.all_eq_true] at h4
    refine ⟨h4.1, fun j off hj => h4.2 off ?_⟩
    rw [← Array.getElem?_toList] at hj
    exact List.mem_of_getElem? hj
theorem ai_room_ok {M M' : ai_M} {pc len x kd mi na ci : Nat} {i : Instr} (hM : M ∈ ai_MT) (h : ai_at M pc = some (i, len)) (hi : ai_ivk i = some x) (ht : ai_mth (ai_oi M) x = some (kd, mi, na, ci)) (hM' : ai_MT[mi]? = some M') : ai_Fr M' + 1 ≤ ai_Fr M ∧ 19 + ai_nL M' + ai_Lc M' ≤ ai_Lc M := by
  have h1 := List.all_eq_true.mp (List.all_eq_true.mp ai_rcks M hM) _ (ai_lookN h)
  simp only [hi, ht, hM', Bool.and_eq_true, decide_eq_true_eq] at h1
  exact h1.1.1
theorem ai_robj {M : ai_M} {pc len x : Nat} (hM : M ∈ ai_MT) (h : ai_at M pc = some (.invokespecial x, len)) (hx : ai_isObj (ai_oi M) x = true) : 1 ≤ ai_Fr M ∧ 20 ≤ ai_Lc M := by
  have h1 := List.all_eq_true.mp (List.all_eq_true.mp ai_rcks M hM) _ (ai_lookN h)
  simp only [ai_ivk, hx, Bool.not_true, Bool.false_or, Bool.and_eq_true, decide_eq_true_eq] at h1
  exact h1.1.2
theorem ai_rcpy {M : ai_M} {pc len x : Nat} (hM : M ∈ ai_MT) (h : ai_at M pc = some (.invokestatic x, len)) (hx : ai_isCpy (ai_oi M) x = true) : 1 ≤ ai_Fr M ∧ 26 ≤ ai_Lc M := by
  have h1 := List.all_eq_true.mp (List.all_eq_true.mp ai_rcks M hM) _ (ai_lookN h)
  simp only [ai_ivk, hx, Bool.not_true, Bool.false_or, Bool.and_eq_true, decide_eq_true_eq] at h1
  exact h1.2
theorem ai_c0t : ∀ k, k < 4 → parseFieldDescriptor (ai_T0 k).2.2.1 = some (ai_ty 0 k) := by decide +kernel
theorem ai_c0n : ∀ a, a < 4 → ∀ b, b < 4 → a ≠ b → (ai_T0 a).2.1 ≠ (ai_T0 b).2.1 := by decide +kernel
theorem ai_c0o : ∀ k, k < 4 → (ai_T0 k).1 = "RuleCompletion" := by decide +kernel
theorem ai_c1t : ∀ k, k < 3 → parseFieldDescriptor (ai_T1 k).2.2.1 = some (ai_ty 1 k) := by decide +kernel
theorem ai_c1n : ∀ a, a < 3 → ∀ b, b < 3 → a ≠ b → (ai_T1 a).2.1 ≠ (ai_T1 b).2.1 := by decide +kernel
theorem ai_c1o : ∀ k, k < 3 → (ai_T1 k).1 = "RuleCompletion$Symbols" := by decide +kernel
theorem ai_c2t : ∀ k, k < 2 → parseFieldDescriptor (ai_T2 k).2.2.1 = some (ai_ty 2 k) := by decide +kernel
theorem ai_c2n : ∀ a, a < 2 → ∀ b, b < 2 → a ≠ b → (ai_T2 a).2.1 ≠ (ai_T2 b).2.1 := by decide +kernel
theorem ai_c2o : ∀ k, k < 2 → (ai_T2 k).1 = "RuleCompletion$Draft" := by decide +kernel
theorem ai_c3t : ∀ k, k < 2 → parseFieldDescriptor (ai_T3 k).2.2.1 = some (ai_ty 3 k) := by decide +kernel
theorem ai_c3n : ∀ a, a < 2 → ∀ b, b < 2 → a ≠ b → (ai_T3 a).2.1 ≠ (ai_T3 b).2.1 := by decide +kernel
theorem ai_c3o : ∀ k, k < 2 → (ai_T3 k).1 = "RuleCompletion$Pair" := by decide +kernel
theorem ai_c4t : ∀ k, k < 2 → parseFieldDescriptor (ai_T4 k).2.2.1 = some (ai_ty 4 k) := by decide +kernel
theorem ai_c4n : ∀ a, a < 2 → ∀ b, b < 2 → a ≠ b → (ai_T4 a).2.1 ≠ (ai_T4 b).2.1 := by decide +kernel
theorem ai_c4o : ∀ k, k < 2 → (ai_T4 k).1 = "RuleCompletion$Term" := by decide +kernel
theorem ai_c5t : ∀ k, k < 12 → parseFieldDescriptor (ai_T5 k).2.2.1 = some (ai_ty 5 k) := by decide +kernel
theorem ai_c5n : ∀ a, a < 12 → ∀ b, b < 12 → a ≠ b → (ai_T5 a).2.1 ≠ (ai_T5 b).2.1 := by decide +kernel
theorem ai_c5o : ∀ k, k < 12 → (ai_T5 k).1 = "RuleCompletion$Engine" := by decide +kernel
theorem ai_c6t : ∀ k, k < 2 → parseFieldDescriptor (ai_T6 k).2.2.1 = some (ai_ty 6 k) := by decide +kernel
theorem ai_c6n : ∀ a, a < 2 → ∀ b, b < 2 → a ≠ b → (ai_T6 a).2.1 ≠ (ai_T6 b).2.1 := by decide +kernel
theorem ai_c6o : ∀ k, k < 2 → (ai_T6 k).1 = "RuleCompletion$PairList" := by decide +kernel
theorem ai_c7t : ∀ k, k < 2 → parseFieldDescriptor (ai_T7 k).2.2.1 = some (ai_ty 7 k) := by decide +kernel
theorem ai_c7n : ∀ a, a < 2 → ∀ b, b < 2 → a ≠ b → (ai_T7 a).2.1 ≠ (ai_T7 b).2.1 := by decide +kernel
theorem ai_c7o : ∀ k, k < 2 → (ai_T7 k).1 = "RuleCompletion$Renaming" := by decide +kernel
theorem ai_c8t : ∀ k, k < 6 → parseFieldDescriptor (ai_T8 k).2.2.1 = some (ai_ty 8 k) := by decide +kernel
theorem ai_c8n : ∀ a, a < 6 → ∀ b, b < 6 → a ≠ b → (ai_T8 a).2.1 ≠ (ai_T8 b).2.1 := by decide +kernel
theorem ai_c8o : ∀ k, k < 6 → (ai_T8 k).1 = "RuleCompletion$Rewriter" := by decide +kernel
theorem ai_c9t : ∀ k, k < 6 → parseFieldDescriptor (ai_T9 k).2.2.1 = some (ai_ty 9 k) := by decide +kernel
theorem ai_c9n : ∀ a, a < 6 → ∀ b, b < 6 → a ≠ b → (ai_T9 a).2.1 ≠ (ai_T9 b).2.1 := by decide +kernel
theorem ai_c9o : ∀ k, k < 6 → (ai_T9 k).1 = "RuleCompletion$PathOrder" := by decide +kernel
theorem ai_c10t : ∀ k, k < 12 → parseFieldDescriptor (ai_T10 k).2.2.1 = some (ai_ty 10 k) := by decide +kernel
theorem ai_c10n : ∀ a, a < 12 → ∀ b, b < 12 → a ≠ b → (ai_T10 a).2.1 ≠ (ai_T10 b).2.1 := by decide +kernel
theorem ai_c10o : ∀ k, k < 12 → (ai_T10 k).1 = "RuleCompletion$Overlap" := by decide +kernel
theorem ai_c11t : ∀ k, k < 27 → parseFieldDescriptor (ai_T11 k).2.2.1 = some (ai_ty 11 k) := by decide +kernel
theorem ai_c11n : ∀ a, a < 27 → ∀ b, b < 27 → a ≠ b → (ai_T11 a).2.1 ≠ (ai_T11 b).2.1 := by decide +kernel
theorem ai_c11o : ∀ k, k < 27 → (ai_T11 k).1 = "RuleCompletionModel" := by decide +kernel
theorem ai_cl_ok {ci : Nat} {C : String} {T : u_T} {N : Nat} (h : ai_cl[ci]? = some (C, T, N)) : (∀ k, k < N → parseFieldDescriptor (T k).2.2.1 = some (ai_ty ci k)) ∧ (∀ a, a < N → ∀ b, b < N → a ≠ b → (T a).2.1 ≠ (T b).2.1) := by
  match ci, h with
  | 0, h => cases h; exact ⟨ai_c0t, ai_c0n⟩
  | 1, h => cases h; exact ⟨ai_c1t, ai_c1n⟩
  | 2, h => cases h; exact ⟨ai_c2t, ai_c2n⟩
  | 3, h => cases h; exact ⟨ai_c3t, ai_c3n⟩
  | 4, h => cases h; exact ⟨ai_c4t, ai_c4n⟩
  | 5, h => cases h; exact ⟨ai_c5t, ai_c5n⟩
  | 6, h => cases h; exact ⟨ai_c6t, ai_c6n⟩
  | 7, h => cases h; exact ⟨ai_c7t, ai_c7n⟩
  | 8, h => cases h; exact ⟨ai_c8t, ai_c8n⟩
  | 9, h => cases h; exact ⟨ai_c9t, ai_c9n⟩
  | 10, h => cases h; exact ⟨ai_c10t, ai_c10n⟩
  | 11, h => cases h; exact ⟨ai_c11t, ai_c11n⟩
  | n + 12, h => simp [ai_cl] at h
theorem ai_cl_own {ci : Nat} {C : String} {T : u_T} {N : Nat} (h : ai_cl[ci]? = some (C, T, N)) : ∀ k, k < N → (T k).1 = C := by
  match ci, h with
  | 0, h => cases h; exact ai_c0o
  | 1, h => cases h; exact ai_c1o
  | 2, h => cases h; exact ai_c2o
  | 3, h => cases h; exact ai_c3o
  | 4, h => cases h; exact ai_c4o
  | 5, h => cases h; exact ai_c5o
  | 6, h => cases h; exact ai_c6o
  | 7, h => cases h; exact ai_c7o
  | 8, h => cases h; exact ai_c8o
  | 9, h => cases h; exact ai_c9o
  | 10, h => cases h; exact ai_c10o
  | 11, h => cases h; exact ai_c11o
  | n + 12, h => simp [ai_cl] at h
theorem ai_cl_in {ci : Nat} {C : String} {T : u_T} {N : Nat} (h : ai_cl[ci]? = some (C, T, N)) : ∀ w ∈ u_ws C T N, w ∈ ai_ws := fun w hw => ai_ws2 (List.mem_flatMap.mpr ⟨(C, T, N), List.mem_of_getElem? h, hw⟩)
def ai_fck (e : (Nat × Nat) × (Nat × Nat × Bool)) : Bool := match ai_cl[e.2.1]? with
  | some (_, _, N) => decide (e.2.2.1 < N)
  | none => false
set_option maxRecDepth 100000 in
theorem ai_fcks : ai_fldL.all ai_fck = true := by decide +kernel
theorem ai_fld_ok {oi x : Nat} {q : Nat × Nat × Bool} (h : ai_fld oi x = some q) : ∃ C T N, ai_cl[q.1]? = some (C, T, N) ∧ q.2.1 < N ∧ (T q.2.1).1 = C ∧ (∀ w ∈ u_ws C T N, w ∈ ai_ws) ∧ (if q.2.2 = true then Cond.fieldLinkNest (ai_own oi) x C (T q.2.1).2.1 (T q.2.1).2.2.1 ai_host ∈ ai_nw else Cond.fieldLink (ai_own oi) x C (T q.2.1).2.1 (T q.2.1).2.2.1 ∈ ai_ws) := by
  have hm : ((oi, x), q) ∈ ai_fldL := ai_lookP h
  have h1 := List.all_eq_true.mp ai_fcks _ hm
  unfold ai_fck at h1
  cases hc : ai_cl[q.1]? with
  | none => simp only [hc] at h1; cases h1
  | some z =>
    obtain ⟨C, T, N⟩ := z
    simp only [hc, decide_eq_true_eq] at h1
    refine ⟨C, T, N, rfl, h1, ai_cl_own hc _ h1, ai_cl_in hc, ?_⟩
    cases hn : q.2.2 with
    | true =>
      rw [if_pos rfl]
      refine List.mem_append_left _ (List.mem_map.mpr ⟨(ai_own oi, x, C, (T q.2.1).2.1, (T q.2.1).2.2.1), ?_, rfl⟩)
      exact List.mem_map.mpr ⟨((oi, x), q), List.mem_filter.mpr ⟨hm, hn⟩, by simp only [hc]⟩
    | false =>
      rw [if_neg (by simp)]
      refine ai_ws3 (List.mem_map.mpr ⟨((oi, x), q), List.mem_filter.mpr ⟨hm, by simp [hn]⟩, ?_⟩)
      simp only [ai_fw, hc, hn]
      rfl
theorem ai_new_ok {oi x ci : Nat} (h : ai_new oi x = some ci) : ∃ C T N, ai_cl[ci]? = some (C, T, N) ∧ Cond.classLink (ai_own oi) x C ∈ ai_ws ∧ Cond.instantiable C N ∈ ai_ws ∧ Cond.initialized C ∈ ai_ws := by
  have hm : ((oi, x), ci) ∈ ai_newL := ai_lookP h
  have key : ai_newL.all (fun e => (ai_cl[e.2]?).isSome) = true := by decide +kernel
  have h1 := List.all_eq_true.mp key _ hm
  obtain ⟨⟨C, T, N⟩, hc⟩ := Option.isSome_iff_exists.mp h1
  have hc' : ai_cl[ci]? = some (C, T, N) := hc
  have hin : ∀ w ∈ ([.classLink (ai_own oi) x C, .instantiable C N, .initialized C] : List Cond), w ∈ ai_ws := fun w hw => ai_ws5 (List.mem_flatMap.mpr ⟨((oi, x), ci), hm, by simp only [hc']; exact hw⟩)
  exact ⟨C, T, N, hc', hin _ (by simp), hin _ (by simp), hin _ (by simp)⟩
theorem ai_contains {l : List (Nat × Nat)} {a : Nat × Nat} (h : l.contains a = true) : a ∈ l := by simpa using h
theorem ai_anw_ok {oi x : Nat} (h : ai_anw oi x = true) : Cond.classLink (ai_own oi) x ai_pairN ∈ ai_ws := by
  have hm : (oi, x) ∈ ai_anwL := ai_contains h
  refine ai_ws6 ?_
  unfold ai_w6
  simp only [List.mem_append]
  exact Or.inl (Or.inl (Or.inl (Or.inl (Or.inl (Or.inl (List.mem_map.mpr ⟨(oi, x), hm, rfl⟩))))))
theorem ai_arr_ok {ty : ArrayType} {t : Nat} (h : ai_kind ty = some t) : Cond.arrayClass (newarray.typeOf ty) ∈ ai_ws := by
  refine ai_ws6 ?_
  unfold ai_w6
  simp only [List.mem_append]
  refine Or.inl (Or.inl (Or.inl (Or.inl (Or.inl (Or.inr ?_)))))
  cases ty <;> simp [ai_kind] at h <;> simp [newarray.typeOf]
theorem ai_ldc_ok {oi x : Nat} {v : Int32} (h : ai_ldc oi x = some v) : Cond.constant (ai_own oi) x v ∈ ai_ws := by cases h
theorem ai_ldcJ_ok {oi x : Nat} {v : Int64} (h : ai_ldcJ oi x = some v) : Cond.constantLong (ai_own oi) x v ∈ ai_ws := by
  have hm : ((oi, x), v) ∈ ai_ldjL := ai_lookP h
  refine ai_ws6 ?_
  unfold ai_w6
  simp only [List.mem_append]
  exact Or.inl (Or.inl (Or.inl (Or.inl (Or.inr (List.mem_map.mpr ⟨_, hm, rfl⟩)))))
theorem ai_obj_ok {oi x : Nat} (h : ai_isObj oi x = true) : Cond.methodLink (ai_own oi) x objectInit ∈ ai_ws ∧ Cond.instanceMethod objectInit ∈ ai_ws ∧ Cond.code objectInit ⟨#[0xb1]⟩ 1 none ∈ ai_ws := by
  have hm : (oi, x) ∈ ai_objL := ai_contains h
  refine ⟨ai_ws6 ?_, ai_ws6 ?_, ai_ws6 ?_⟩ <;> unfold ai_w6 <;> simp only [List.mem_append]
  · exact Or.inl (Or.inl (Or.inl (Or.inr (List.mem_map.mpr ⟨(oi, x), hm, rfl⟩))))
  · exact Or.inl (Or.inl (Or.inr (by simp)))
  · exact Or.inl (Or.inl (Or.inr (by simp)))
theorem ai_cpy_ok {oi x : Nat} (h : ai_isCpy oi x = true) : Cond.methodLink (ai_own oi) x arraycopyName ∈ ai_ws ∧ Cond.native arraycopyName ∈ ai_ws ∧ Cond.static arraycopyName ∈ ai_ws ∧ Cond.initialized "java/lang/System" ∈ ai_ws := by
  have hm : (oi, x) ∈ ai_cpyL := ai_contains h
  refine ⟨ai_ws6 ?_, ai_ws6 ?_, ai_ws6 ?_, ai_ws6 ?_⟩ <;> unfold ai_w6 <;> simp only [List.mem_append]
  · exact Or.inl (Or.inr (List.mem_map.mpr ⟨(oi, x), hm, rfl⟩))
  · exact Or.inr (by simp)
  · exact Or.inr (by simp)
  · exact Or.inr (by simp)
theorem ai_pair_ok : ∃ T N, ai_cl[ai_pair]? = some (ai_pairN, T, N) := ⟨_, _, rfl⟩
theorem ai_nw_ok {w : Cond} (h : w ∈ ai_nw) : (∃ a i r n d hh, w = .fieldLinkNest a i r n d hh) ∨ ∃ a i y hh, w = .methodLinkNest a i y hh := by
  rcases List.mem_append.mp h with h | h
  · obtain ⟨q, -, rfl⟩ := List.mem_map.mp h
    exact Or.inl ⟨_, _, _, _, _, _, rfl⟩
  · obtain ⟨q, -, rfl⟩ := List.mem_map.mp h
    exact Or.inr ⟨_, _, _, _, rfl⟩
theorem ai_code_in {M : ai_M} (hM : M ∈ ai_MT) (ho : ai_oi M ≠ 99) : ai_cw M ∈ ai_ws := ai_ws1 (List.mem_map.mpr ⟨M, List.mem_filter.mpr ⟨hM, by simpa using ho⟩, rfl⟩)
def ai_mck (e : (Nat × Nat) × (Nat × Nat × Nat × Nat)) : Bool := match ai_MT[e.2.2.1]? with
  | none => false
  | some M => decide (ai_oi M ≠ 99) && decide ((ai_y M).cls ≠ "java/lang/invoke/MethodHandle") && decide ((ai_y M).cls ≠ "java/lang/invoke/VarHandle") && decide ((parseMethodDescriptor (ai_y M).desc).map (fun d => d.parameters.length) = some e.2.2.2.1) && (match e.2.1 with
    | 0 => (ai_ex M).isEmpty && decide ((ai_cl[e.2.2.2.2]?).map (fun q => q.1) = some (ai_y M).cls)
    | 1 => (ai_ex M).isEmpty && decide ((ai_cl[e.2.2.2.2]?).map (fun q => q.1) = some (ai_y M).cls)
    | 2 => (ai_ex M).isEmpty
    | 3 => (ai_ex M).isEmpty
    | 4 => (ai_ex M).isEmpty && decide ((ai_y M).name = "<init>") && decide (ai_ret M = none)
    | 5 => (ai_ex M).isEmpty && decide ((ai_y M).name = "<init>") && decide (ai_ret M = none)
    | 6 => !(ai_ex M).isEmpty
    | _ => false)
set_option maxRecDepth 100000 in
theorem ai_mcks : ai_mthL.all ai_mck = true := by decide +kernel
theorem ai_cw_e {M : ai_M} (h : (ai_ex M).isEmpty = true) : ai_cw M = .code (ai_y M) (ai_cc M) (ai_nL M) (ai_ret M) := by
  unfold ai_cw
  rw [List.isEmpty_iff.mp h]
theorem ai_cw_h {M : ai_M} (h : (ai_ex M).isEmpty = false) : ∃ hh, ai_cw M = .codeWith (ai_y M) (ai_cc M) (ai_nL M) (ai_ret M) hh := by
  unfold ai_cw
  cases hx : ai_ex M with
  | nil => rw [hx] at h; cases h
  | cons a t => exact ⟨_, rfl⟩
theorem ai_cl_n {ci : Nat} {C : String} (h : (ai_cl[ci]?).map (fun q => q.1) = some C) : ∃ T N, ai_cl[ci]? = some (C, T, N) := by
  cases hc : ai_cl[ci]? with
  | none => rw [hc] at h; cases h
  | some q =>
    obtain ⟨C', T, N⟩ := q
    rw [hc] at h
    cases h
    exact ⟨T, N, rfl⟩
theorem ai_mth_ok {oi x kd mi na ci : Nat} {M : ai_M} (h : ai_mth oi x = some (kd, mi, na, ci)) (hM : ai_MT[mi]? = some M) :
    ((ai_y M).cls ≠ "java/lang/invoke/MethodHandle" ∧ (ai_y M).cls ≠ "java/lang/invoke/VarHandle") ∧ (parseMethodDescriptor (ai_y M).desc).map (fun d => d.parameters.length) = some na ∧ Cond.initialized (ai_y M).cls ∈ ai_ws ∧ ai_oi M ≠ 99 ∧
    (kd = 0 → Cond.methodLink (ai_own oi) x (ai_y M) ∈ ai_ws ∧ Cond.instanceMethod (ai_y M) ∈ ai_ws ∧ Cond.selects (ai_y M).cls (ai_y M) (ai_y M) ∈ ai_ws ∧ ai_cw M = .code (ai_y M) (ai_cc M) (ai_nL M) (ai_ret M) ∧ ∃ T N, ai_cl[ci]? = some ((ai_y M).cls, T, N)) ∧
    (kd = 1 → Cond.methodLinkNest (ai_own oi) x (ai_y M) ai_host ∈ ai_nw ∧ Cond.instanceMethod (ai_y M) ∈ ai_ws ∧ Cond.selects (ai_y M).cls (ai_y M) (ai_y M) ∈ ai_ws ∧ ai_cw M = .code (ai_y M) (ai_cc M) (ai_nL M) (ai_ret M) ∧ ∃ T N, ai_cl[ci]? = some ((ai_y M).cls, T, N)) ∧
    (kd = 2 → Cond.methodLink (ai_own oi) x (ai_y M) ∈ ai_ws ∧ Cond.static (ai_y M) ∈ ai_ws ∧ ai_cw M = .code (ai_y M) (ai_cc M) (ai_nL M) (ai_ret M)) ∧
    (kd = 3 → Cond.methodLinkNest (ai_own oi) x (ai_y M) ai_host ∈ ai_nw ∧ Cond.static (ai_y M) ∈ ai_ws ∧ ai_cw M = .code (ai_y M) (ai_cc M) (ai_nL M) (ai_ret M)) ∧
    (kd = 4 → Cond.methodLink (ai_own oi) x (ai_y M) ∈ ai_ws ∧ Cond.instanceMethod (ai_y M) ∈ ai_ws ∧ (ai_y M).name = "<init>" ∧ ai_cw M = .code (ai_y M) (ai_cc M) (ai_nL M) none) ∧
    (kd = 5 → Cond.methodLinkNest (ai_own oi) x (ai_y M) ai_host ∈ ai_nw ∧ Cond.instanceMethod (ai_y M) ∈ ai_ws ∧ (ai_y M).name = "<init>" ∧ ai_cw M = .code (ai_y M) (ai_cc M) (ai_nL M) none) ∧
    (kd = 6 → Cond.methodLink (ai_own oi) x (ai_y M) ∈ ai_ws ∧ Cond.static (ai_y M) ∈ ai_ws ∧ ∃ hh, ai_cw M = .codeWith (ai_y M) (ai_cc M) (ai_nL M) (ai_ret M) hh) := by
  have hm : ((oi, x), (kd, mi, na, ci)) ∈ ai_mthL := ai_lookP h
  have h1 := List.all_eq_true.mp ai_mcks _ hm
  simp only [ai_mck, hM, Bool.and_eq_true, decide_eq_true_eq] at h1
  obtain ⟨⟨⟨⟨g0, g1⟩, g2⟩, g3⟩, g4⟩ := h1
  have hy : ai_yOf mi = ai_y M := by simp [ai_yOf, hM]
  have hw : ∀ w ∈ ai_mw ((oi, x), (kd, mi, na, ci)), w ∈ ai_ws := fun w hw => ai_ws4 (List.mem_flatMap.mpr ⟨_, hm, hw⟩)
  have hn : ai_nest kd = true → Cond.methodLinkNest (ai_own oi) x (ai_y M) ai_host ∈ ai_nw := fun hk => List.mem_append_right _ (List.mem_map.mpr ⟨(ai_own oi, x, ai_y M), List.mem_map.mpr ⟨_, List.mem_filter.mpr ⟨hm, hk⟩, by simp only [hy]⟩, rfl⟩)
  simp only [ai_mw, hy] at hw
  have hini : Cond.initialized (ai_y M).cls ∈ ai_ws := by
    split at hw <;> exact hw _ (by simp)
  refine ⟨⟨g1, g2⟩, g3, hini, g0, ?_, ?_, ?_, ?_, ?_, ?_, ?_⟩ <;> rintro rfl <;> simp only [Bool.and_eq_true, decide_eq_true_eq] at g4 hw
  · exact ⟨hw _ (by simp), hw _ (by simp), hw _ (by simp), ai_cw_e g4.1, ai_cl_n g4.2⟩
  · exact ⟨hn rfl, hw _ (by simp), hw _ (by simp), ai_cw_e g4.1, ai_cl_n g4.2⟩
  · exact ⟨hw _ (by simp), hw _ (by simp), ai_cw_e g4⟩
  · exact ⟨hn rfl, hw _ (by simp), ai_cw_e g4⟩
  · exact ⟨hw _ (by simp), hw _ (by simp), g4.1.2, by rw [ai_cw_e g4.1.1, g4.2]⟩
  · exact ⟨hn rfl, hw _ (by simp), g4.1.2, by rw [ai_cw_e g4.1.1, g4.2]⟩
  · exact ⟨hw _ (by simp), hw _ (by simp), ai_cw_h (by simpa using g4)⟩
