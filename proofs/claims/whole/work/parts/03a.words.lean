/-! THE ABSTRACT MACHINE: the tables' words that it stands on -/
def q_winv (e : Nat × Nat × Nat × Nat) : List Cond := match e with
  | (o, i, 0, M) => [.methodLink (q_cn o) i (q_y M), .instanceMethod (q_y M), .selects (q_cn (q_own M)) (q_y M) (q_y M)]
  | (o, i, 1, M) => [.methodLink (q_cn o) i (q_y M), .static (q_y M)]
  | (o, i, 2, M) => [.methodLink (q_cn o) i (q_y M), .instanceMethod (q_y M)]
  | (_, _, 3, M) => [.static (q_y M)]
  | (_, _, 4, M) => [.instanceMethod (q_y M)]
  | (o, i, 5, _) => [.methodLink (q_cn o) i objectInit]
  | (o, i, _, _) => [.methodLink (q_cn o) i arraycopyName]
def q_fnm (ci k : Nat) : String × String × String := if ci = 11 then (if k = 0 then ("java/lang/String", "value", "[B") else ("java/lang/String", "coder", "B")) else ((vwCl[ci]?).map (fun q => ((q.2.1 k).1, (q.2.1 k).2.1, (q.2.1 k).2.2.1))).getD ("", "", "")
def q_wcode : List Cond := (q_methL.take 201).map (fun x => Cond.code x.2.1 x.2.2.1 x.2.2.2.1 x.2.2.2.2) ++ [.code objectInit ⟨#[0xb1]⟩ 1 none]
def q_wfix : List Cond := [.instanceMethod objectInit, .native arraycopyName, .static arraycopyName, .initialized "java/lang/System", .fieldLink RX4 107 "LadenEmpty$Search" "SETS_WITH" "[J", .fieldLink RJ0 38 "java/lang/String" "COMPACT_STRINGS" "Z", .fieldLink RJ0 1053 "jdk/internal/util/Preconditions" "SIOOBE_FORMATTER" "Ljava/util/function/BiFunction;", .classLink RX3 18 "[[I", .arrayClass .int, .arrayClass .byte, .arrayClass .long, .arrayClass .boolean]
def q_wlist : List (List Cond) := [q_invL.flatMap q_winv, (List.range 14).map (fun j => .initialized (q_cn j)), q_fldL.map (fun e => .fieldLink (q_cn e.1) e.2.1 (q_fnm e.2.2.1 e.2.2.2).1 (q_fnm e.2.2.1 e.2.2.2).2.1 (q_fnm e.2.2.1 e.2.2.2).2.2), q_conL.map (fun e => .constant (q_cn e.1) e.2.1 e.2.2), q_lcoL.map (fun e => .constantLong (q_cn e.1) e.2.1 e.2.2), q_newL.map (fun e => .classLink (q_cn e.1) e.2.1 (q_cn e.2.2)), (List.range 9).map (fun j => .instantiable (q_cn j) (q_fN j)), vwCl.flatMap (fun q => u_ws q.1 q.2.1 q.2.2), q_wfix]
def q_ws : List Cond := q_wcode ++ q_wlist.flatten
set_option maxRecDepth 1000000 in
theorem q_wk0 : (q_ws.drop 0).take 40 = ([254, 573, 616, 534, 301, 757, 797, 769, 761, 785, 793, 789, 781, 777, 773, 805, 801, 765, 108, 524, 551, 546, 589, 704, 513, 564, 559, 568, 555, 624, 581, 633, 641, 80, 368, 356, 372, 380, 817, 275] : List Nat).filterMap (fun i => lw_tbl[i]?) := by rfl
set_option maxRecDepth 1000000 in
theorem q_wk1 : (q_ws.drop 40).take 40 = ([646, 691, 709, 650, 655, 661, 665, 669, 674, 114, 529, 102, 396, 404, 408, 487, 509, 519, 500, 504, 483, 491, 431, 412, 419, 426, 415, 422, 72, 343, 364, 376, 387, 391, 400, 538, 542, 585, 595, 599] : List Nat).filterMap (fun i => lw_tbl[i]?) := by rfl
set_option maxRecDepth 1000000 in
theorem q_wk2 : (q_ws.drop 80).take 40 = ([603, 608, 612, 620, 629, 637, 683, 687, 696, 700, 714, 731, 735, 739, 743, 753, 809, 813, 822, 346, 351, 360, 746, 749, 718, 721, 827, 916, 1036, 921, 926, 913, 910, 930, 938, 934, 942, 946, 960, 956] : List Nat).filterMap (fun i => lw_tbl[i]?) := by rfl
set_option maxRecDepth 1000000 in
theorem q_wk3 : (q_ws.drop 120).take 40 = ([969, 973, 977, 990, 994, 981, 964, 999, 1004, 952, 1009, 1077, 1021, 1017, 1061, 1033, 1044, 1029, 1040, 1048, 1025, 1053, 1013, 1057, 1065, 1069, 1073, 1081, 1085, 1093, 1089, 1101, 1097, 1120, 1132, 1128, 1124, 1117, 1135, 1113] : List Nat).filterMap (fun i => lw_tbl[i]?) := by rfl
set_option maxRecDepth 1000000 in
theorem q_wk4 : (q_ws.drop 160).take 40 = ([1109, 1105, 1139, 1147, 1143, 1151, 1155, 1167, 1163, 1171, 1159, 1175, 1179, 1183, 1190, 1187, 1206, 1214, 1230, 1226, 1222, 1218, 1210, 1202, 1238, 1198, 1234, 1194, 1242, 1246, 1250, 724, 679, 577, 435, 445, 439, 449, 455, 452] : List Nat).filterMap (fun i => lw_tbl[i]?) := by rfl
set_option maxRecDepth 1000000 in
theorem q_wk5 : (q_ws.drop 200).take 40 = ([460, 75, 255, 113, 574, 527, 528, 575, 576, 302, 758, 759, 760, 782, 783, 784, 786, 787, 788, 790, 791, 792, 766, 767, 768, 774, 775, 776, 770, 771, 772, 798, 799, 800, 802, 803, 804, 778, 779, 780] : List Nat).filterMap (fun i => lw_tbl[i]?) := by rfl
set_option maxRecDepth 1000000 in
theorem q_wk6 : (q_ws.drop 240).take 40 = ([762, 763, 764, 109, 113, 525, 526, 527, 528, 345, 705, 549, 550, 556, 557, 558, 561, 562, 563, 565, 566, 567, 625, 553, 554, 642, 631, 632, 81, 818, 366, 367, 276, 647, 648, 649, 652, 653, 654, 658] : List Nat).filterMap (fun i => lw_tbl[i]?) := by rfl
set_option maxRecDepth 1000000 in
theorem q_wk7 : (q_ws.drop 280).take 40 = ([659, 660, 692, 562, 563, 710, 511, 512, 656, 566, 567, 662, 663, 664, 666, 667, 668, 670, 557, 558, 671, 672, 673, 677, 678, 115, 530, 103, 107, 405, 406, 407, 409, 410, 411, 428, 429, 430, 480, 481] : List Nat).filterMap (fun i => lw_tbl[i]?) := by rfl
set_option maxRecDepth 1000000 in
theorem q_wk8 : (q_ws.drop 320).take 40 = ([482, 484, 485, 486, 506, 507, 508, 516, 517, 518, 488, 489, 490, 497, 498, 499, 501, 502, 503, 510, 511, 512, 432, 433, 434, 442, 443, 444, 413, 414, 416, 417, 418, 420, 421, 423, 424, 425, 73, 78] : List Nat).filterMap (fun i => lw_tbl[i]?) := by rfl
set_option maxRecDepth 1000000 in
theorem q_wk9 : (q_ws.drop 360).take 40 = ([79, 101, 107, 252, 253, 273, 274, 299, 300, 344, 345, 348, 350, 0, 353, 354, 355, 357, 359, 1, 365, 366, 367, 369, 370, 371, 377, 378, 379, 381, 393, 394, 395, 401, 402, 403, 521, 522, 523, 531] : List Nat).filterMap (fun i => lw_tbl[i]?) := by rfl
set_option maxRecDepth 1000000 in
theorem q_wk10 : (q_ws.drop 400).take 40 = ([532, 533, 543, 544, 545, 548, 549, 550, 552, 553, 554, 570, 571, 572, 578, 579, 580, 586, 587, 588, 590, 562, 563, 604, 511, 512, 613, 614, 615, 621, 622, 623, 630, 631, 632, 638, 639, 640, 643, 644] : List Nat).filterMap (fun i => lw_tbl[i]?) := by rfl
set_option maxRecDepth 1000000 in
theorem q_wk11 : (q_ws.drop 440).take 40 = ([645, 688, 689, 690, 701, 702, 703, 706, 707, 708, 715, 717, 2, 744, 745, 754, 755, 756, 794, 795, 796, 814, 815, 816, 747, 748, 719, 720, 722, 723, 828, 914, 915, 911, 912, 918, 920, 3, 923, 925] : List Nat).filterMap (fun i => lw_tbl[i]?) := by rfl
set_option maxRecDepth 1000000 in
theorem q_wk12 : (q_ws.drop 480).take 40 = ([4, 935, 937, 5, 957, 959, 7, 953, 955, 6, 970, 972, 10, 974, 976, 11, 966, 968, 9, 978, 980, 12, 987, 989, 13, 991, 993, 14, 961, 963, 8, 996, 998, 15, 1001, 1003, 16, 1030, 1032, 21] : List Nat).filterMap (fun i => lw_tbl[i]?) := by rfl
set_option maxRecDepth 1000000 in
theorem q_wk13 : (q_ws.drop 520).take 40 = ([1034, 1035, 1041, 1043, 23, 1026, 1028, 20, 1037, 1039, 22, 1045, 1047, 24, 1014, 1016, 17, 1018, 1020, 18, 1022, 1024, 19, 1050, 1052, 25, 1058, 1060, 26, 1074, 1076, 27, 1090, 1092, 28, 1098, 1100, 29, 1125, 1127] : List Nat).filterMap (fun i => lw_tbl[i]?) := by rfl
set_option maxRecDepth 1000000 in
theorem q_wk14 : (q_ws.drop 560).take 40 = ([34, 1118, 1119, 1129, 1131, 35, 1121, 1123, 33, 1114, 1116, 32, 1133, 1134, 1106, 1108, 30, 1110, 1112, 31, 1144, 1146, 36, 1160, 1162, 37, 1164, 1166, 38, 1168, 1170, 39, 1188, 1189, 1203, 1205, 42, 1227, 1229, 48] : List Nat).filterMap (fun i => lw_tbl[i]?) := by rfl
set_option maxRecDepth 1000000 in
theorem q_wk15 : (q_ws.drop 600).take 40 = ([1223, 1225, 47, 1211, 1213, 44, 1219, 1221, 46, 1207, 1209, 43, 1199, 1201, 41, 1215, 1217, 45, 1235, 1237, 50, 1195, 1197, 40, 1231, 1233, 49, 436, 437, 438, 446, 447, 448, 450, 451, 458, 459, 453, 454, 70] : List Nat).filterMap (fun i => lw_tbl[i]?) := by rfl
set_option maxRecDepth 1000000 in
theorem q_wk16 : (q_ws.drop 640).take 40 = ([71, 825, 826, 340, 341, 342, 907, 908, 909, 361, 362, 363, 927, 928, 929, 373, 374, 375, 931, 932, 933, 384, 385, 386, 939, 940, 941, 388, 389, 390, 943, 944, 945, 397, 398, 399, 949, 950, 951, 535] : List Nat).filterMap (fun i => lw_tbl[i]?) := by rfl
set_option maxRecDepth 1000000 in
theorem q_wk17 : (q_ws.drop 680).take 40 = ([536, 537, 1006, 1007, 1008, 539, 540, 541, 1010, 1011, 1012, 582, 583, 584, 1054, 1055, 1056, 592, 593, 594, 1062, 1063, 1064, 596, 597, 598, 1066, 1067, 1068, 600, 601, 602, 1070, 1071, 1072, 605, 606, 607, 1078, 1079] : List Nat).filterMap (fun i => lw_tbl[i]?) := by rfl
set_option maxRecDepth 1000000 in
theorem q_wk18 : (q_ws.drop 720).take 40 = ([1080, 609, 610, 611, 1082, 1083, 1084, 617, 618, 619, 1086, 1087, 1088, 626, 627, 628, 1094, 1095, 1096, 634, 635, 636, 1102, 1103, 1104, 680, 681, 682, 1136, 1137, 1138, 684, 685, 686, 1140, 1141, 1142, 693, 694, 695] : List Nat).filterMap (fun i => lw_tbl[i]?) := by rfl
set_option maxRecDepth 1000000 in
theorem q_wk19 : (q_ws.drop 760).take 40 = ([1148, 1149, 1150, 697, 698, 699, 1152, 1153, 1154, 711, 712, 713, 1156, 1157, 1158, 728, 729, 730, 1172, 1173, 1174, 732, 733, 734, 1176, 1177, 1178, 736, 737, 738, 1180, 1181, 1182, 740, 741, 742, 1184, 1185, 1186, 750] : List Nat).filterMap (fun i => lw_tbl[i]?) := by rfl
set_option maxRecDepth 1000000 in
theorem q_wk20 : (q_ws.drop 800).take 40 = ([751, 752, 1191, 1192, 1193, 806, 807, 808, 1239, 1240, 1241, 810, 811, 812, 1243, 1244, 1245, 819, 820, 821, 1247, 1248, 1249, 57, 59, 55, 53, 58, 56, 54, 52, 60, 67, 66, 62, 63, 64, 259, 262, 260] : List Nat).filterMap (fun i => lw_tbl[i]?) := by rfl
set_option maxRecDepth 1000000 in
theorem q_wk21 : (q_ws.drop 840).take 40 = ([304, 303, 168, 178, 174, 306, 167, 172, 175, 177, 187, 191, 160, 163, 181, 184, 123, 127, 139, 136, 120, 142, 84, 86, 88, 278, 279, 277, 188, 192, 130, 133, 117, 280, 281, 282, 166, 180, 170, 116] : List Nat).filterMap (fun i => lw_tbl[i]?) := by rfl
set_option maxRecDepth 1000000 in
theorem q_wk22 : (q_ws.drop 880).take 40 = ([121, 125, 129, 134, 138, 141, 216, 219, 217, 224, 193, 164, 135, 221, 161, 182, 185, 169, 173, 222, 176, 179, 118, 126, 122, 131, 189, 226, 223, 228, 315, 316, 317, 318, 319, 320, 321, 87, 89, 85] : List Nat).filterMap (fun i => lw_tbl[i]?) := by rfl
set_option maxRecDepth 1000000 in
theorem q_wk23 : (q_ws.drop 920).take 40 = ([218, 227, 220, 165, 225, 194, 119, 132, 124, 162, 183, 128, 140, 137, 261, 190, 171, 307, 305, 186, 143, 322, 830, 831, 832, 833, 835, 836, 837, 839, 848, 849, 853, 838, 840, 841, 842, 843, 845, 844] : List Nat).filterMap (fun i => lw_tbl[i]?) := by rfl
set_option maxRecDepth 1000000 in
theorem q_wk24 : (q_ws.drop 960).take 40 = ([846, 847, 834, 850, 851, 852, 854, 1252, 1253, 560, 651, 514, 347, 392, 520, 569, 591, 352, 829, 922, 917, 947, 1005, 1049, 725, 726, 727, 657, 948, 982, 983, 984, 985, 986, 965, 995, 1000, 1251, 256, 110] : List Nat).filterMap (fun i => lw_tbl[i]?) := by rfl
set_option maxRecDepth 1000000 in
theorem q_wk25 : (q_ws.drop 1000).take 40 = ([104, 76, 98, 248, 250, 271, 297, 68, 823, 251, 298, 105, 77, 272, 111, 99, 69, 824, 263, 265, 267, 308, 310, 312, 195, 197, 199, 201, 203, 205, 207, 209, 211, 213, 90, 92, 94, 283, 285, 287] : List Nat).filterMap (fun i => lw_tbl[i]?) := by rfl
set_option maxRecDepth 1000000 in
theorem q_wk26 : (q_ws.drop 1040).take 40 = ([289, 291, 293, 144, 146, 148, 150, 152, 154, 156, 229, 231, 233, 235, 237, 239, 241, 243, 245, 323, 325, 327, 329, 331, 333, 335, 337, 855, 857, 859, 861, 863, 865, 867, 869, 871, 873, 875, 877, 879] : List Nat).filterMap (fun i => lw_tbl[i]?) := by rfl
set_option maxRecDepth 1000000 in
theorem q_wk27 : (q_ws.drop 1080).take 40 = ([881, 883, 885, 887, 889, 891, 893, 895, 897, 899, 901, 903, 74, 383, 382, 61, 675, 440, 456, 82, 97, 159, 296, 906] : List Nat).filterMap (fun i => lw_tbl[i]?) := by rfl
theorem q_wmem {l : List Cond} {ps : List Nat} (h : l = ps.filterMap (fun i => lw_tbl[i]?)) : ∀ w ∈ l, w ∈ lw_tbl := by
  intro w hw
  rw [h] at hw
  obtain ⟨i, -, hi⟩ := List.mem_filterMap.mp hw
  exact List.mem_of_getElem? hi
theorem q_wchunk {l : List Cond} {P : Cond → Prop} (n k m : Nat) (hm : n + k = m) (h1 : ∀ w ∈ (l.drop n).take k, P w) (h2 : ∀ w ∈ l.drop m, P w) : ∀ w ∈ l.drop n, P w := by
  intro w hw
  rw [← List.take_append_drop k (l.drop n)] at hw
  rcases List.mem_append.mp hw with h | h
  · exact h1 w h
  · rw [List.drop_drop, hm] at h
    exact h2 w h
set_option maxRecDepth 1000000 in
theorem q_wlen : q_ws.length = 1104 := by rfl
set_option maxRecDepth 1000000 in
theorem q_wg : q_ws.all goodWord = true := by rfl
theorem q_ws_tbl : ∀ w ∈ q_ws, w ∈ lw_tbl := by
  have h0 : ∀ w ∈ q_ws.drop 1120, w ∈ lw_tbl := by
    rw [List.drop_eq_nil_of_le (by rw [q_wlen]; decide)]
    exact fun w h => absurd h List.not_mem_nil
  have h0 := q_wchunk 1080 40 1120 rfl (q_wmem q_wk27) h0
  have h0 := q_wchunk 1040 40 1080 rfl (q_wmem q_wk26) h0
  have h0 := q_wchunk 1000 40 1040 rfl (q_wmem q_wk25) h0
  have h0 := q_wchunk 960 40 1000 rfl (q_wmem q_wk24) h0
  have h0 := q_wchunk 920 40 960 rfl (q_wmem q_wk23) h0
  have h0 := q_wchunk 880 40 920 rfl (q_wmem q_wk22) h0
  have h0 := q_wchunk 840 40 880 rfl (q_wmem q_wk21) h0
  have h0 := q_wchunk 800 40 840 rfl (q_wmem q_wk20) h0
  have h0 := q_wchunk 760 40 800 rfl (q_wmem q_wk19) h0
  have h0 := q_wchunk 720 40 760 rfl (q_wmem q_wk18) h0
  have h0 := q_wchunk 680 40 720 rfl (q_wmem q_wk17) h0
  have h0 := q_wchunk 640 40 680 rfl (q_wmem q_wk16) h0
  have h0 := q_wchunk 600 40 640 rfl (q_wmem q_wk15) h0
  have h0 := q_wchunk 560 40 600 rfl (q_wmem q_wk14) h0
  have h0 := q_wchunk 520 40 560 rfl (q_wmem q_wk13) h0
  have h0 := q_wchunk 480 40 520 rfl (q_wmem q_wk12) h0
  have h0 := q_wchunk 440 40 480 rfl (q_wmem q_wk11) h0
  have h0 := q_wchunk 400 40 440 rfl (q_wmem q_wk10) h0
  have h0 := q_wchunk 360 40 400 rfl (q_wmem q_wk9) h0
  have h0 := q_wchunk 320 40 360 rfl (q_wmem q_wk8) h0
  have h0 := q_wchunk 280 40 320 rfl (q_wmem q_wk7) h0
  have h0 := q_wchunk 240 40 280 rfl (q_wmem q_wk6) h0
  have h0 := q_wchunk 200 40 240 rfl (q_wmem q_wk5) h0
  have h0 := q_wchunk 160 40 200 rfl (q_wmem q_wk4) h0
  have h0 := q_wchunk 120 40 160 rfl (q_wmem q_wk3) h0
  have h0 := q_wchunk 80 40 120 rfl (q_wmem q_wk2) h0
  have h0 := q_wchunk 40 40 80 rfl (q_wmem q_wk1) h0
  have h0 := q_wchunk 0 40 40 rfl (q_wmem q_wk0) h0
  exact h0
theorem q_ws_good : GoodIn lw_tbl q_ws := fun w hw => ⟨q_ws_tbl w hw, good_of_word (List.all_eq_true.mp q_wg w hw)⟩
