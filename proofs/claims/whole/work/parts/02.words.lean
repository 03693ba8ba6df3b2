/-! the words that the machine over places needs, out of the tables, by their places -/
def ae_cn (o : Nat) : String := ae_CN.getD o ""
noncomputable def ae_my (k : Nat) : MethodName := ((ae_mt[k]?).map (fun q => q.1)).getD objectInit
def ae_arr : MethodName := arraycopyName
def ae_fw (q : Nat × Nat × Nat × Nat) : Cond := match ae_cl[q.2.2.1]? with
  | some (C, T, _) => .fieldLink (ae_cn q.1) q.2.1 C (T q.2.2.2).2.1 (T q.2.2.2).2.2.1
  | none => if q.2.2.2 = 0 then .fieldLink (ae_cn q.1) q.2.1 "java/lang/String" "value" "[B" else .fieldLink (ae_cn q.1) q.2.1 "java/lang/String" "coder" "B"
noncomputable def ae_ly (k : Nat) : MethodName := if k = 1000 then objectInit else if k = 1001 then arraycopyName else if k = 1002 then ⟨"java/lang/Math", "max", "(II)I"⟩ else if k = 1003 then ⟨"java/lang/Math", "min", "(II)I"⟩ else ae_my k
noncomputable def ae_lw (q : Nat × Nat × Nat) : Cond := .methodLink (ae_cn q.1) q.2.1 (ae_ly q.2.2)
def ae_cw (q : Nat × Nat × Nat) : Cond := .classLink (ae_cn q.1) q.2.1 (((ae_cl[q.2.2]?).map (fun z => z.1)).getD "")
def ae_kw (q : Nat × Nat × Value) : Cond := match q.2.2 with
  | .int v => .constant (ae_cn q.1) q.2.1 v
  | .long v => .constantLong (ae_cn q.1) q.2.1 v
  | _ => .tt
def ae_stn : List (String × String × String) := [("java/lang/String", "COMPACT_STRINGS", "Z"), ("jdk/internal/util/Preconditions", "SIOOBE_FORMATTER", "Ljava/util/function/BiFunction;"), ("DriedOut$Wood", "ABOVE", "[I")]
def ae_sw (q : Nat × Nat × Nat) : Cond := match ae_stn[q.2.2]? with
  | some (C, n, d) => .fieldLink (ae_cn q.1) q.2.1 C n d
  | none => .tt
def ae_codew (q : ae_M) : Cond := .code q.1 q.2.1 q.2.2.1 q.2.2.2.1
def ae_flagw (q : ae_M) : Cond := if q.2.2.2.2.2.2 = true then .static q.1 else .instanceMethod q.1
def ae_inw (q : ae_M) : Cond := .initialized q.1.cls
def ae_selw (q : ae_M) : Cond := .selects q.1.cls q.1 q.1
/-- methods that a virtual call picks -/
def ae_sels : List Nat := [1, 2, 4, 5, 6, 7, 8, 9, 10, 11, 12, 13, 14, 15, 16, 17, 18, 19, 20, 21, 22, 23, 24, 26, 27, 28, 30, 31, 32, 33, 34, 36, 37, 38, 39, 40, 41, 42, 43, 44, 46, 47, 48, 49, 50, 51, 52, 53, 54, 55, 56, 57, 58, 59, 60, 61, 62, 63, 64, 65, 66, 68, 69, 70, 71, 74, 75, 76, 77, 78, 79, 80, 81, 82, 83, 84, 85, 86, 88, 89, 90, 91, 94, 95, 96, 112, 113, 114, 115, 116, 119, 120, 121, 122, 123, 124, 125, 126, 127, 128, 129, 130, 131, 132, 133, 134, 136, 137, 138, 139, 140, 141, 142, 143, 144, 145, 146, 147, 148, 149, 150, 151, 152, 153, 154, 156, 157, 158, 159, 160, 161, 162, 163, 164, 165, 166, 167, 168, 169, 170, 171, 173, 174, 175, 176, 178, 179, 180, 181, 182]
noncomputable def ae_WF : List Cond := ae_FT.map ae_fw
noncomputable def ae_WL : List Cond := ae_LT.map ae_lw
noncomputable def ae_WC : List Cond := (ae_mt.take 186).map ae_codew
noncomputable def ae_WG : List Cond := (ae_mt.take 186).map ae_flagw
noncomputable def ae_WI : List Cond := (ae_mt.take 186).map ae_inw
noncomputable def ae_WS : List Cond := ae_sels.map (fun k => .selects (ae_my k).cls (ae_my k) (ae_my k))
noncomputable def ae_WK : List Cond := ae_CT.map ae_cw ++ (ae_KT.map ae_kw ++ ae_ST.map ae_sw)
noncomputable def ae_WO : List Cond := ae_cl.flatMap (fun q => u_ws q.1 q.2.1 q.2.2)
noncomputable def ae_WN : List Cond := ae_cl.map (fun q => .instantiable q.1 q.2.2) ++ (ae_cl.map (fun q => .initialized q.1) ++ [.arrayClass .int, .arrayClass .byte, .instanceMethod objectInit, .code objectInit ⟨#[0xb1]⟩ 1 none, .native arraycopyName, .static arraycopyName, .initialized "java/lang/System", .static ⟨"java/lang/Math", "max", "(II)I"⟩, .static ⟨"java/lang/Math", "min", "(II)I"⟩, .initialized "java/lang/Math", .code Lib.Math.max.name Lib.Math.max.code 2 (some .int), .code Lib.Math.min.name Lib.Math.min.code 2 (some .int)])
def ae_pF : List Nat := [451, 452, 454, 455, 456, 457, 120, 97, 122, 124, 128, 131, 101, 105, 110, 113, 116, 168, 209, 107, 100, 453, 260, 263, 104, 109, 112, 115, 118, 121, 123, 126, 129, 95, 98, 102, 106, 229, 230, 231, 232, 233, 227, 228, 234, 119, 96, 127, 130, 125, 111, 114, 117, 99, 103, 108, 166, 169, 170, 174, 178, 167, 172, 176, 171, 207, 210, 208, 211, 445, 443, 259, 262, 261, 444, 175, 442, 173, 177, 801, 802, 803, 804, 805, 806, 807, 808, 811, 812, 814, 816, 817, 818, 826, 827, 828, 829, 832, 833, 834, 835, 845, 846, 847, 848, 849, 850, 851, 852, 853, 800, 810, 813, 822, 823, 824, 825, 820, 819, 821, 815, 809, 836, 830, 831, 837, 838, 839, 840, 841, 842, 843, 844, 1239, 1240]
def ae_pL : List Nat := [86, 223, 272, 282, 320, 324, 477, 482, 490, 493, 497, 501, 509, 513, 596, 597, 598, 603, 608, 612, 328, 430, 632, 649, 654, 655, 659, 668, 676, 689, 701, 705, 710, 709, 727, 728, 735, 749, 757, 760, 768, 772, 780, 785, 790, 94, 607, 573, 569, 576, 739, 740, 226, 517, 518, 522, 535, 560, 561, 565, 577, 585, 581, 589, 553, 593, 526, 556, 530, 538, 534, 640, 636, 641, 663, 680, 681, 165, 332, 387, 395, 336, 339, 343, 347, 351, 354, 358, 384, 391, 399, 403, 411, 407, 415, 419, 423, 427, 204, 435, 542, 546, 550, 258, 438, 439, 361, 376, 381, 379, 380, 793, 559, 799, 969, 977, 981, 997, 1000, 1004, 1015, 993, 1023, 1011, 1035, 1027, 1031, 1039, 1051, 1043, 1047, 1019, 1007, 1079, 1071, 1075, 1082, 1063, 1067, 1085, 1097, 1093, 1101, 1113, 1109, 1137, 1133, 1121, 1125, 1129, 1141, 1153, 1161, 1177, 1206, 1214, 1230, 1235, 276, 286, 290, 298, 293, 83, 796, 473, 965, 486, 973, 505, 1059, 599, 1089, 616, 985, 620, 989, 624, 1055, 628, 1105, 645, 1117, 664, 1145, 672, 1149, 685, 1157, 693, 1165, 697, 1169, 711, 1173, 715, 1181, 719, 1185, 723, 1189, 731, 1194, 741, 1198, 745, 1202, 753, 1210, 764, 1217, 776, 1221, 781, 1225, 786, 1231]
def ae_pC : List Nat := [85, 476, 489, 492, 500, 504, 508, 602, 619, 623, 327, 627, 631, 648, 652, 667, 675, 688, 696, 700, 708, 714, 718, 722, 726, 730, 734, 744, 748, 759, 756, 767, 779, 784, 789, 93, 496, 512, 606, 485, 572, 568, 752, 639, 738, 225, 516, 564, 588, 584, 580, 611, 615, 521, 592, 525, 684, 644, 529, 533, 692, 704, 635, 662, 658, 671, 679, 164, 323, 331, 335, 350, 338, 353, 342, 357, 346, 398, 394, 414, 390, 402, 406, 410, 418, 422, 426, 203, 433, 541, 545, 549, 552, 257, 763, 771, 775, 437, 429, 386, 360, 378, 363, 383, 479, 792, 595, 558, 575, 798, 971, 1084, 980, 984, 968, 976, 988, 999, 1006, 1003, 996, 1018, 1054, 1014, 1038, 1034, 1022, 1026, 1030, 1042, 1046, 1050, 1010, 992, 1058, 1081, 1078, 1074, 1066, 1070, 1088, 1062, 1100, 1096, 1104, 1092, 1116, 1112, 1108, 1128, 1144, 1140, 1136, 1156, 1132, 1123, 1120, 1148, 1152, 1164, 1160, 1168, 1172, 1180, 1176, 1184, 1188, 1192, 1197, 1201, 1209, 1205, 1216, 1213, 1220, 1224, 1228, 1237, 1234, 275, 285, 279, 289, 295, 292, 300]
def ae_pG : List Nat := [84, 474, 487, 491, 499, 503, 506, 600, 617, 621, 326, 625, 629, 646, 651, 665, 673, 686, 694, 698, 707, 712, 716, 720, 724, 729, 732, 742, 746, 758, 754, 765, 777, 782, 787, 92, 494, 510, 604, 483, 570, 566, 750, 637, 736, 224, 514, 562, 587, 583, 579, 609, 613, 519, 590, 523, 683, 643, 528, 532, 690, 702, 633, 660, 656, 669, 677, 163, 321, 329, 334, 349, 337, 352, 341, 356, 345, 397, 393, 413, 389, 401, 405, 409, 417, 421, 425, 202, 431, 539, 544, 548, 551, 256, 761, 769, 773, 436, 428, 385, 359, 377, 362, 382, 478, 791, 594, 557, 574, 797, 970, 1083, 979, 983, 966, 974, 986, 998, 1005, 1002, 995, 1017, 1053, 1013, 1037, 1033, 1021, 1025, 1029, 1041, 1045, 1049, 1009, 990, 1056, 1080, 1077, 1073, 1065, 1069, 1087, 1060, 1099, 1095, 1103, 1090, 1115, 1111, 1106, 1127, 1143, 1139, 1135, 1155, 1131, 1122, 1118, 1146, 1150, 1163, 1158, 1166, 1170, 1179, 1174, 1182, 1186, 1190, 1195, 1199, 1208, 1203, 1215, 1211, 1218, 1222, 1226, 1236, 1232, 273, 283, 277, 287, 294, 291, 299]
def ae_pI : List Nat := [65, 65, 65, 65, 65, 65, 65, 65, 65, 65, 65, 65, 65, 65, 65, 65, 65, 65, 65, 65, 65, 65, 65, 65, 65, 65, 65, 65, 65, 65, 65, 65, 65, 65, 65, 66, 66, 66, 66, 66, 66, 66, 66, 66, 66, 69, 69, 69, 69, 69, 69, 69, 69, 69, 69, 69, 69, 69, 69, 69, 69, 69, 69, 69, 69, 69, 69, 67, 67, 67, 67, 67, 67, 67, 67, 67, 67, 67, 67, 67, 67, 67, 67, 67, 67, 67, 67, 68, 68, 68, 68, 68, 68, 70, 70, 70, 70, 76, 75, 75, 75, 75, 75, 75, 79, 79, 79, 79, 79, 78, 78, 78, 78, 78, 78, 78, 78, 78, 78, 78, 78, 78, 78, 78, 78, 78, 78, 78, 78, 78, 78, 78, 78, 78, 78, 78, 78, 78, 78, 78, 78, 78, 78, 78, 78, 78, 78, 78, 78, 78, 78, 78, 78, 78, 78, 78, 78, 78, 78, 78, 78, 78, 78, 78, 78, 78, 78, 78, 78, 78, 78, 78, 78, 78, 78, 78, 78, 78, 78, 71, 71, 71, 71, 71, 72, 73]
def ae_pS : List Nat := [475, 488, 16, 17, 507, 601, 618, 622, 0, 626, 630, 647, 26, 666, 674, 687, 695, 699, 28, 713, 717, 721, 725, 733, 743, 747, 755, 766, 778, 783, 788, 495, 511, 605, 484, 571, 567, 751, 638, 737, 515, 563, 24, 23, 22, 610, 614, 520, 591, 524, 27, 25, 18, 19, 691, 703, 634, 661, 657, 670, 678, 322, 330, 1, 4, 2, 5, 3, 8, 7, 12, 6, 9, 10, 11, 13, 14, 15, 432, 540, 20, 21, 762, 770, 774, 29, 30, 967, 975, 987, 32, 31, 35, 44, 34, 40, 39, 36, 37, 38, 41, 42, 43, 33, 991, 1057, 48, 47, 45, 46, 49, 1061, 51, 50, 52, 1091, 54, 53, 1107, 55, 59, 58, 57, 60, 56, 1119, 1147, 1151, 61, 1159, 1167, 1171, 62, 1175, 1183, 1187, 1191, 1196, 1200, 63, 1204, 1212, 1219, 1223, 1227, 1233, 274, 284, 278, 288]
def ae_pK : List Nat := [89, 160, 199, 221, 252, 205, 81, 794, 653, 972, 1124, 1193, 1229, 1238, 480, 280, 296]
def ae_pO : List Nat := [132, 134, 136, 138, 140, 142, 144, 146, 148, 150, 152, 154, 156, 235, 237, 239, 241, 243, 245, 247, 249, 179, 181, 183, 185, 187, 189, 191, 193, 195, 212, 214, 216, 218, 264, 266, 268, 446, 448, 458, 460, 462, 464, 466, 468, 470, 854, 856, 858, 860, 862, 864, 866, 868, 870, 872, 874, 876, 878, 880, 882, 884, 886, 888, 890, 892, 894, 896, 898, 900, 902, 904, 906, 908, 910, 912, 914, 916, 918, 920, 922, 924, 926, 928, 930, 932, 934, 936, 938, 940, 942, 944, 946, 948, 950, 952, 954, 956, 958, 960, 962]
def ae_pN : List Nat := [90, 222, 161, 200, 254, 434, 82, 795, 66, 69, 67, 68, 70, 76, 65, 78, 159, 198, 87, 88, 441, 440, 77, 554, 536, 80, 555, 537]
theorem ae_qF : ae_WF = ae_pF.filterMap (fun i => lw_tbl[i]?) := by decide +kernel
theorem ae_qL : ae_WL = ae_pL.filterMap (fun i => lw_tbl[i]?) := by decide +kernel
theorem ae_qG : ae_WG = ae_pG.filterMap (fun i => lw_tbl[i]?) := by decide +kernel
theorem ae_qI : ae_WI = ae_pI.filterMap (fun i => lw_tbl[i]?) := by decide +kernel
theorem ae_qS : ae_WS = ae_pS.filterMap (fun i => lw_tbl[i]?) := by decide +kernel
theorem ae_qK : ae_WK = ae_pK.filterMap (fun i => lw_tbl[i]?) := by decide +kernel
theorem ae_qO : ae_WO = ae_pO.filterMap (fun i => lw_tbl[i]?) := by decide +kernel
theorem ae_qN : ae_WN = ae_pN.filterMap (fun i => lw_tbl[i]?) := by decide +kernel
set_option maxRecDepth 100000 in
theorem ae_qC : ae_WC = ae_pC.filterMap (fun i => lw_tbl[i]?) := rfl
noncomputable def ae_W : List Cond := ae_WF ++ (ae_WL ++ (ae_WC ++ (ae_WG ++ (ae_WI ++ (ae_WS ++ (ae_WK ++ (ae_WO ++ ae_WN)))))))
theorem ae_good : ae_W.all goodWord = true := by decide +kernel
theorem ae_pin {ws big : List Cond} {ps : List Nat} (h : ws = ps.filterMap (fun i => big[i]?)) : ∀ w ∈ ws, w ∈ big := by
  intro w hw
  rw [h] at hw
  obtain ⟨i, -, hi⟩ := List.mem_filterMap.mp hw
  exact List.mem_of_getElem? hi
theorem ae_W_tbl : ∀ w ∈ ae_W, w ∈ lw_tbl := by
  intro w hw
  simp only [ae_W, List.mem_append] at hw
  rcases hw with h | h | h | h | h | h | h | h | h
  · exact ae_pin ae_qF w h
  · exact ae_pin ae_qL w h
  · exact ae_pin ae_qC w h
  · exact ae_pin ae_qG w h
  · exact ae_pin ae_qI w h
  · exact ae_pin ae_qS w h
  · exact ae_pin ae_qK w h
  · exact ae_pin ae_qO w h
  · exact ae_pin ae_qN w h
