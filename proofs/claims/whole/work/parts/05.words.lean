/-! THE WORDS that every method of the small machine may use; all of them are the tables' -/
def xwl (q : String × Nat × Nat × Nat) : List Cond := match xMT[q.2.2.1]? with
  | some y => if q.2.2.2 = 0 then [.methodLink q.1 q.2.1 y.1, .instanceMethod y.1, .selects y.1.cls y.1 y.1, .initialized y.1.cls]
      else if q.2.2.2 = 1 then [.methodLink q.1 q.2.1 y.1, .static y.1, .initialized y.1.cls]
      else if q.2.2.2 = 2 then [.methodLink q.1 q.2.1 y.1, .instanceMethod y.1, .initialized y.1.cls]
      else [.instanceMethod y.1, .initialized y.1.cls]
  | none => []
def xwf (q : String × Nat × Nat × Nat) : List Cond := match vwCl[q.2.2.1]? with
  | some r => [.fieldLink q.1 q.2.1 r.1 (r.2.1 q.2.2.2).2.1 (r.2.1 q.2.2.2).2.2.1]
  | none => []
def xwc (q : String × Nat × Int × Bool) : Cond := if q.2.2.2 then .constantLong q.1 q.2.1 (Int64.ofInt q.2.2.1) else .constant q.1 q.2.1 (Int32.ofInt q.2.2.1)
def xWcode : List Cond := (xMT.take 202).map (fun q => .code q.1 q.2.1 q.2.2.1 q.2.2.2.1)
def xWlink : List Cond := xLT.flatMap xwl
def xWfield : List Cond := xFT.flatMap xwf
def xWlay : List Cond := vwCl.flatMap (fun q => u_ws q.1 q.2.1 q.2.2)
def xWinst : List Cond := vwCl.flatMap (fun q => [.instantiable q.1 q.2.2, .initialized q.1])
def xWconst : List Cond := xCT.map xwc
def xWclass : List Cond := xKT.map (fun q => .classLink q.1 q.2.1 q.2.2)
def xWarr : List Cond := [.arrayClass .int, .arrayClass .long, .arrayClass .byte]
def xWobj : List Cond := xOI.map (fun q => .methodLink q.1 q.2 objectInit) ++ [.instanceMethod objectInit, .code objectInit ⟨#[0xb1]⟩ 1 none]
def xWcopy : List Cond := xCO.map (fun q => .methodLink q.1 q.2 arraycopyName) ++ [.native arraycopyName, .static arraycopyName, .initialized "java/lang/System", .fieldLink RX8 310 RX8 "KIND_ABOVE" "[I"]
def xTs : List Cond := xWcode ++ (xWlink ++ (xWfield ++ (xWlay ++ (xWinst ++ (xWconst ++ (xWclass ++ (xWarr ++ (xWobj ++ xWcopy))))))))
theorem xin_code_0 : ∀ w ∈ (xWcode.drop 0).take 100, w ∈ lw_tbl := by
  have h : (xWcode.drop 0).take 100 = ([189, 487, 503, 410, 423, 531, 519, 675, 133, 597, 475, 479, 467, 670, 127, 376, 414, 389, 593, 584, 666, 273, 637, 641, 645, 650, 96, 706, 680, 86, 662, 398, 428, 368, 385, 450, 556, 445, 432, 454, 402, 495, 689, 609, 633, 406, 419, 515, 511, 523, 527, 570, 540, 589, 552, 574, 579, 624, 605, 737, 315, 782, 802, 790, 69, 364, 372, 381, 61, 356, 360, 394, 436, 441, 459, 463, 471, 483, 491, 507, 535, 544, 548, 566, 601, 616, 620, 658, 685, 694, 698, 710, 714, 725, 729, 733, 742, 746, 750, 757] : List Nat).filterMap (fun i => lw_tbl[i]?) := by decide +kernel
  intro w hw
  rw [h] at hw
  obtain ⟨i, -, hi⟩ := List.mem_filterMap.mp hw
  exact List.mem_of_getElem? hi
theorem xin_code_1 : ∀ w ∈ (xWcode.drop 100).take 100, w ∈ lw_tbl := by
  have h : (xWcode.drop 100).take 100 = ([761, 765, 774, 778, 786, 794, 798, 702, 629, 498, 753, 768, 718, 721, 808, 943, 967, 1043, 1046, 940, 951, 955, 959, 947, 987, 975, 983, 1066, 991, 979, 971, 1011, 1003, 999, 995, 963, 1007, 1015, 1019, 1023, 1031, 1027, 1035, 1039, 1062, 1074, 1070, 1058, 1054, 1050, 1078, 1082, 1110, 1106, 1102, 1118, 1114, 1086, 1098, 1094, 1090, 1130, 1126, 1122, 1134, 1146, 1142, 1138, 1175, 1154, 1171, 1167, 1163, 1159, 1150, 1187, 1191, 1195, 1199, 1207, 1203, 1214, 1218, 1222, 1226, 1230, 1234, 1179, 1183, 1238, 1242, 1246, 1250, 1257, 1254, 1264, 1261, 1268, 1272, 559] : List Nat).filterMap (fun i => lw_tbl[i]?) := by decide +kernel
  intro w hw
  rw [h] at hw
  obtain ⟨i, -, hi⟩ := List.mem_filterMap.mp hw
  exact List.mem_of_getElem? hi
theorem xin_code_2 : ∀ w ∈ (xWcode.drop 200).take 100, w ∈ lw_tbl := by
  have h : (xWcode.drop 200).take 100 = ([1210, 100] : List Nat).filterMap (fun i => lw_tbl[i]?) := by decide +kernel
  intro w hw
  rw [h] at hw
  obtain ⟨i, -, hi⟩ := List.mem_filterMap.mp hw
  exact List.mem_of_getElem? hi
theorem xlen_code : xWcode.length ≤ 300 := by decide +kernel
theorem xin_code : ∀ w ∈ xWcode, w ∈ lw_tbl := by
  intro w hw
  obtain ⟨i, hi⟩ := List.getElem?_of_mem hw
  have hl : i < xWcode.length := (List.getElem?_eq_some_iff.mp hi).1
  have hb := xlen_code
  rcases Nat.lt_or_ge i 100 with q0 | q0
  · exact xin_code_0 w (List.mem_of_getElem? (i := i - 0) (by rw [List.getElem?_take_of_lt (by omega), List.getElem?_drop, show 0 + (i - 0) = i by omega]; exact hi))
  rcases Nat.lt_or_ge i 200 with q1 | q1
  · exact xin_code_1 w (List.mem_of_getElem? (i := i - 100) (by rw [List.getElem?_take_of_lt (by omega), List.getElem?_drop, show 100 + (i - 100) = i by omega]; exact hi))
  exact xin_code_2 w (List.mem_of_getElem? (i := i - 200) (by rw [List.getElem?_take_of_lt (by omega), List.getElem?_drop, show 200 + (i - 200) = i by omega]; exact hi))
theorem xin_link_0 : ∀ w ∈ (xWlink.drop 0).take 100, w ∈ lw_tbl := by
  have h : (xWlink.drop 0).take 100 = ([59, 60, 44, 68, 45, 84, 85, 46, 94, 95, 47, 98, 99, 48, 126, 49, 132, 50, 188, 51, 272, 52, 314, 53, 353, 354, 355, 44, 357, 358, 359, 44, 361, 362, 363, 45, 365, 366, 367, 46, 369, 370, 371, 45, 373, 374, 375, 49, 377, 370, 371, 45, 378, 379, 380, 45, 382, 383, 384, 46, 386, 387, 388, 49, 391, 392, 393, 44, 395, 396, 397, 46, 399, 400, 401, 46, 403, 404, 405, 46, 407, 408, 409, 51, 411, 412, 413, 49, 415, 412, 413, 49, 416, 417, 418, 46, 420, 421, 422, 51] : List Nat).filterMap (fun i => lw_tbl[i]?) := by decide +kernel
  intro w hw
  rw [h] at hw
  obtain ⟨i, -, hi⟩ := List.mem_filterMap.mp hw
  exact List.mem_of_getElem? hi
theorem xin_link_1 : ∀ w ∈ (xWlink.drop 100).take 100, w ∈ lw_tbl := by
  have h : (xWlink.drop 100).take 100 = ([424, 408, 409, 51, 425, 426, 427, 46, 429, 430, 431, 46, 433, 434, 435, 44, 437, 387, 388, 49, 438, 439, 440, 44, 442, 443, 444, 46, 446, 400, 401, 46, 447, 448, 449, 46, 451, 452, 453, 46, 455, 430, 431, 46, 456, 457, 458, 44, 460, 461, 462, 44, 464, 465, 466, 50, 468, 469, 470, 44, 472, 473, 474, 50, 476, 477, 478, 50, 480, 481, 482, 44, 484, 485, 486, 51, 488, 489, 490, 44, 492, 493, 494, 46, 496, 497, 44, 499, 408, 409, 51, 500, 501, 502, 51, 504, 505, 506, 44, 508] : List Nat).filterMap (fun i => lw_tbl[i]?) := by decide +kernel
  intro w hw
  rw [h] at hw
  obtain ⟨i, -, hi⟩ := List.mem_filterMap.mp hw
  exact List.mem_of_getElem? hi
theorem xin_link_2 : ∀ w ∈ (xWlink.drop 200).take 100, w ∈ lw_tbl := by
  have h : (xWlink.drop 200).take 100 = ([509, 510, 46, 512, 513, 514, 46, 516, 517, 518, 51, 520, 521, 522, 46, 524, 525, 526, 46, 528, 529, 530, 51, 532, 533, 534, 44, 536, 404, 405, 46, 537, 538, 539, 46, 541, 542, 543, 44, 545, 546, 547, 44, 549, 550, 551, 46, 553, 554, 555, 46, 557, 558, 55, 563, 564, 565, 44, 567, 568, 569, 46, 571, 572, 573, 46, 575, 554, 555, 46, 576, 577, 578, 46, 580, 452, 453, 46, 581, 582, 583, 49, 585, 412, 413, 49, 586, 587, 588, 46, 590, 591, 592, 49, 594, 595, 596, 50, 598, 599] : List Nat).filterMap (fun i => lw_tbl[i]?) := by decide +kernel
  intro w hw
  rw [h] at hw
  obtain ⟨i, -, hi⟩ := List.mem_filterMap.mp hw
  exact List.mem_of_getElem? hi
theorem xin_link_3 : ∀ w ∈ (xWlink.drop 300).take 100, w ∈ lw_tbl := by
  have h : (xWlink.drop 300).take 100 = ([600, 44, 602, 603, 604, 46, 606, 607, 608, 46, 610, 558, 55, 611, 538, 539, 46, 612, 568, 569, 46, 613, 614, 615, 44, 617, 618, 619, 44, 621, 622, 623, 46, 625, 607, 608, 46, 626, 628, 0, 44, 630, 631, 632, 46, 634, 635, 636, 52, 638, 400, 401, 46, 639, 640, 52, 642, 643, 644, 52, 646, 558, 55, 647, 648, 649, 52, 651, 521, 522, 46, 655, 656, 657, 44, 659, 660, 661, 46, 663, 664, 665, 49, 667, 668, 669, 50, 672, 673, 674, 51, 677, 678, 679, 47, 682, 683, 684, 44, 686] : List Nat).filterMap (fun i => lw_tbl[i]?) := by decide +kernel
  intro w hw
  rw [h] at hw
  obtain ⟨i, -, hi⟩ := List.mem_filterMap.mp hw
  exact List.mem_of_getElem? hi
theorem xin_link_4 : ∀ w ∈ (xWlink.drop 400).take 100, w ∈ lw_tbl := by
  have h : (xWlink.drop 400).take 100 = ([687, 688, 46, 690, 631, 632, 46, 691, 692, 693, 44, 695, 696, 697, 44, 699, 701, 1, 44, 703, 704, 705, 47, 707, 708, 709, 44, 711, 712, 713, 44, 716, 717, 44, 719, 720, 44, 722, 723, 724, 44, 726, 727, 728, 44, 730, 731, 732, 44, 734, 735, 736, 46, 738, 603, 604, 46, 739, 740, 741, 44, 743, 744, 745, 44, 747, 748, 749, 44, 751, 752, 44, 754, 755, 756, 44, 758, 759, 760, 44, 762, 763, 764, 44, 766, 767, 44, 771, 772, 773, 44, 775, 776, 777, 44, 779, 780, 781, 53, 783] : List Nat).filterMap (fun i => lw_tbl[i]?) := by decide +kernel
  intro w hw
  rw [h] at hw
  obtain ⟨i, -, hi⟩ := List.mem_filterMap.mp hw
  exact List.mem_of_getElem? hi
theorem xin_link_5 : ∀ w ∈ (xWlink.drop 500).take 100, w ∈ lw_tbl := by
  have h : (xWlink.drop 500).take 100 = ([784, 785, 44, 787, 788, 789, 53, 791, 792, 793, 44, 795, 796, 797, 44, 799, 800, 801, 53, 806, 807, 54, 937, 938, 939, 54, 941, 942, 54, 944, 945, 946, 54, 948, 950, 2, 54, 952, 954, 3, 54, 956, 958, 4, 54, 960, 961, 962, 54, 964, 966, 5, 54, 968, 970, 6, 54, 972, 974, 7, 54, 976, 978, 8, 54, 980, 982, 9, 54, 984, 986, 10, 54, 988, 990, 11, 54, 992, 994, 12, 54, 996, 998, 13, 54, 1000, 1002, 14, 54, 1004, 1005, 1006, 54, 1008, 1010, 15, 54, 1012, 1013, 1014] : List Nat).filterMap (fun i => lw_tbl[i]?) := by decide +kernel
  intro w hw
  rw [h] at hw
  obtain ⟨i, -, hi⟩ := List.mem_filterMap.mp hw
  exact List.mem_of_getElem? hi
theorem xin_link_6 : ∀ w ∈ (xWlink.drop 600).take 100, w ∈ lw_tbl := by
  have h : (xWlink.drop 600).take 100 = ([54, 1016, 1017, 1018, 54, 1020, 1021, 1022, 54, 1024, 1025, 1026, 54, 1028, 1030, 16, 54, 1032, 1033, 1034, 54, 1036, 1037, 1038, 54, 1040, 1042, 17, 54, 1044, 1045, 54, 1047, 1048, 1049, 54, 1051, 1053, 18, 54, 1055, 1057, 19, 54, 1059, 1061, 20, 54, 1063, 1065, 21, 54, 1067, 1069, 22, 54, 1071, 1073, 23, 54, 1075, 1076, 1077, 54, 1079, 1080, 1081, 54, 1083, 1084, 1085, 54, 1087, 1088, 1089, 54, 1091, 1093, 24, 54, 1095, 1097, 25, 54, 1099, 1101, 26, 54, 1103, 1105, 27, 54, 1107, 1109, 28, 54, 1111, 1113, 29, 54] : List Nat).filterMap (fun i => lw_tbl[i]?) := by decide +kernel
  intro w hw
  rw [h] at hw
  obtain ⟨i, -, hi⟩ := List.mem_filterMap.mp hw
  exact List.mem_of_getElem? hi
theorem xin_link_7 : ∀ w ∈ (xWlink.drop 700).take 100, w ∈ lw_tbl := by
  have h : (xWlink.drop 700).take 100 = ([1115, 1117, 30, 54, 1119, 1120, 1121, 54, 1123, 1125, 31, 54, 1127, 1129, 32, 54, 1131, 1132, 1133, 54, 1135, 1136, 1137, 54, 1139, 1141, 33, 54, 1143, 1145, 34, 54, 1147, 1149, 35, 54, 1151, 1153, 36, 54, 1155, 558, 55, 1156, 1158, 37, 54, 1160, 1162, 38, 54, 1164, 1166, 39, 54, 1168, 1170, 40, 54, 1172, 1173, 1174, 54, 1176, 1178, 41, 54, 1180, 1182, 42, 54, 1184, 1185, 1186, 54, 1188, 1189, 1190, 54, 1192, 1193, 1194, 54, 1196, 1197, 1198, 54, 1200, 1201, 1202, 54, 1205, 1206, 54, 1208, 1209, 48, 1211, 1212, 1213] : List Nat).filterMap (fun i => lw_tbl[i]?) := by decide +kernel
  intro w hw
  rw [h] at hw
  obtain ⟨i, -, hi⟩ := List.mem_filterMap.mp hw
  exact List.mem_of_getElem? hi
theorem xin_link_8 : ∀ w ∈ (xWlink.drop 800).take 100, w ∈ lw_tbl := by
  have h : (xWlink.drop 800).take 100 = ([54, 1215, 1216, 1217, 54, 1219, 1220, 1221, 54, 1223, 1224, 1225, 54, 1227, 1228, 1229, 54, 1231, 1232, 1233, 54, 1235, 1236, 1237, 54, 1239, 1240, 1241, 54, 1243, 1244, 1245, 54, 1247, 1248, 1249, 54, 1251, 1252, 1253, 54, 1255, 1256, 54, 1258, 1259, 1260, 54, 1262, 1263, 54, 1265, 1266, 1267, 54, 1269, 1270, 1271, 54] : List Nat).filterMap (fun i => lw_tbl[i]?) := by decide +kernel
  intro w hw
  rw [h] at hw
  obtain ⟨i, -, hi⟩ := List.mem_filterMap.mp hw
  exact List.mem_of_getElem? hi
theorem xlen_link : xWlink.length ≤ 900 := by decide +kernel
theorem xin_link : ∀ w ∈ xWlink, w ∈ lw_tbl := by
  intro w hw
  obtain ⟨i, hi⟩ := List.getElem?_of_mem hw
  have hl : i < xWlink.length := (List.getElem?_eq_some_iff.mp hi).1
  have hb := xlen_link
  rcases Nat.lt_or_ge i 100 with q0 | q0
  · exact xin_link_0 w (List.mem_of_getElem? (i := i - 0) (by rw [List.getElem?_take_of_lt (by omega), List.getElem?_drop, show 0 + (i - 0) = i by omega]; exact hi))
  rcases Nat.lt_or_ge i 200 with q1 | q1
  · exact xin_link_1 w (List.mem_of_getElem? (i := i - 100) (by rw [List.getElem?_take_of_lt (by omega), List.getElem?_drop, show 100 + (i - 100) = i by omega]; exact hi))
  rcases Nat.lt_or_ge i 300 with q2 | q2
  · exact xin_link_2 w (List.mem_of_getElem? (i := i - 200) (by rw [List.getElem?_take_of_lt (by omega), List.getElem?_drop, show 200 + (i - 200) = i by omega]; exact hi))
  rcases Nat.lt_or_ge i 400 with q3 | q3
  · exact xin_link_3 w (List.mem_of_getElem? (i := i - 300) (by rw [List.getElem?_take_of_lt (by omega), List.getElem?_drop, show 300 + (i - 300) = i by omega]; exact hi))
  rcases Nat.lt_or_ge i 500 with q4 | q4
  · exact xin_link_4 w (List.mem_of_getElem? (i := i - 400) (by rw [List.getElem?_take_of_lt (by omega), List.getElem?_drop, show 400 + (i - 400) = i by omega]; exact hi))
  rcases Nat.lt_or_ge i 600 with q5 | q5
  · exact xin_link_5 w (List.mem_of_getElem? (i := i - 500) (by rw [List.getElem?_take_of_lt (by omega), List.getElem?_drop, show 500 + (i - 500) = i by omega]; exact hi))
  rcases Nat.lt_or_ge i 700 with q6 | q6
  · exact xin_link_6 w (List.mem_of_getElem? (i := i - 600) (by rw [List.getElem?_take_of_lt (by omega), List.getElem?_drop, show 600 + (i - 600) = i by omega]; exact hi))
  rcases Nat.lt_or_ge i 800 with q7 | q7
  · exact xin_link_7 w (List.mem_of_getElem? (i := i - 700) (by rw [List.getElem?_take_of_lt (by omega), List.getElem?_drop, show 700 + (i - 700) = i by omega]; exact hi))
  exact xin_link_8 w (List.mem_of_getElem? (i := i - 800) (by rw [List.getElem?_take_of_lt (by omega), List.getElem?_drop, show 800 + (i - 800) = i by omega]; exact hi))
theorem xin_field_0 : ∀ w ∈ (xWfield.drop 0).take 100, w ∈ lw_tbl := by
  have h : (xWfield.drop 0).take 100 = ([71, 72, 73, 74, 75, 101, 102, 103, 104, 105, 106, 107, 108, 109, 110, 111, 112, 113, 135, 136, 137, 138, 139, 140, 141, 142, 143, 153, 154, 155, 156, 157, 158, 159, 160, 161, 162, 163, 164, 165, 166, 167, 168, 191, 192, 193, 194, 195, 196, 197, 198, 199, 200, 201, 202, 203, 204, 205, 206, 220, 221, 222, 223, 224, 225, 226, 227, 228, 229, 230, 231, 232, 233, 234, 235, 236, 237, 238, 239, 240, 241, 242, 243, 277, 278, 279, 280, 281, 282, 283, 284, 285, 286, 287, 288, 289, 290, 317, 318, 319] : List Nat).filterMap (fun i => lw_tbl[i]?) := by decide +kernel
  intro w hw
  rw [h] at hw
  obtain ⟨i, -, hi⟩ := List.mem_filterMap.mp hw
  exact List.mem_of_getElem? hi
theorem xin_field_1 : ∀ w ∈ (xWfield.drop 100).take 100, w ∈ lw_tbl := by
  have h : (xWfield.drop 100).take 100 = ([320, 321, 322, 331, 332, 333, 334, 335, 336, 337, 810, 811, 812, 813, 814, 815, 816, 817, 818, 819, 820, 821, 822, 823, 824, 825, 826, 827, 828, 829, 830, 831, 832, 833, 834, 835, 836, 837, 838, 839, 840, 841, 842, 843, 844, 845, 846, 847, 848, 849, 850, 851] : List Nat).filterMap (fun i => lw_tbl[i]?) := by decide +kernel
  intro w hw
  rw [h] at hw
  obtain ⟨i, -, hi⟩ := List.mem_filterMap.mp hw
  exact List.mem_of_getElem? hi
theorem xlen_field : xWfield.length ≤ 200 := by decide +kernel
theorem xin_field : ∀ w ∈ xWfield, w ∈ lw_tbl := by
  intro w hw
  obtain ⟨i, hi⟩ := List.getElem?_of_mem hw
  have hl : i < xWfield.length := (List.getElem?_eq_some_iff.mp hi).1
  have hb := xlen_field
  rcases Nat.lt_or_ge i 100 with q0 | q0
  · exact xin_field_0 w (List.mem_of_getElem? (i := i - 0) (by rw [List.getElem?_take_of_lt (by omega), List.getElem?_drop, show 0 + (i - 0) = i by omega]; exact hi))
  exact xin_field_1 w (List.mem_of_getElem? (i := i - 100) (by rw [List.getElem?_take_of_lt (by omega), List.getElem?_drop, show 100 + (i - 100) = i by omega]; exact hi))
theorem xin_lay_0 : ∀ w ∈ (xWlay.drop 0).take 100, w ∈ lw_tbl := by
  have h : (xWlay.drop 0).take 100 = ([207, 209, 211, 213, 215, 217, 144, 146, 148, 150, 169, 171, 173, 175, 177, 179, 181, 183, 291, 293, 295, 297, 299, 301, 303, 305, 307, 114, 116, 118, 120, 244, 246, 248, 250, 252, 254, 256, 258, 260, 262, 264, 266, 323, 325, 327, 76, 78, 338, 340, 342, 344, 346, 348, 350, 852, 854, 856, 858, 860, 862, 864, 866, 868, 870, 872, 874, 876, 878, 880, 882, 884, 886, 888, 890, 892, 894, 896, 898, 900, 902, 904, 906, 908, 910, 912, 914, 916, 918, 920, 922, 924, 926, 928, 930, 932, 934] : List Nat).filterMap (fun i => lw_tbl[i]?) := by decide +kernel
  intro w hw
  rw [h] at hw
  obtain ⟨i, -, hi⟩ := List.mem_filterMap.mp hw
  exact List.mem_of_getElem? hi
theorem xlen_lay : xWlay.length ≤ 100 := by decide +kernel
theorem xin_lay : ∀ w ∈ xWlay, w ∈ lw_tbl := by
  intro w hw
  obtain ⟨i, hi⟩ := List.getElem?_of_mem hw
  have hl : i < xWlay.length := (List.getElem?_eq_some_iff.mp hi).1
  have hb := xlen_lay
  exact xin_lay_0 w (List.mem_of_getElem? (i := i - 0) (by rw [List.getElem?_take_of_lt (by omega), List.getElem?_drop, show 0 + (i - 0) = i by omega]; exact hi))
theorem xin_inst_0 : ∀ w ∈ (xWinst.drop 0).take 100, w ∈ lw_tbl := by
  have h : (xWinst.drop 0).take 100 = ([186, 51, 130, 50, 124, 49, 270, 52, 93, 47, 83, 46, 312, 53, 66, 45, 58, 44, 805, 54] : List Nat).filterMap (fun i => lw_tbl[i]?) := by decide +kernel
  intro w hw
  rw [h] at hw
  obtain ⟨i, -, hi⟩ := List.mem_filterMap.mp hw
  exact List.mem_of_getElem? hi
theorem xlen_inst : xWinst.length ≤ 100 := by decide +kernel
theorem xin_inst : ∀ w ∈ xWinst, w ∈ lw_tbl := by
  intro w hw
  obtain ⟨i, hi⟩ := List.getElem?_of_mem hw
  have hl : i < xWinst.length := (List.getElem?_eq_some_iff.mp hi).1
  have hb := xlen_inst
  exact xin_inst_0 w (List.mem_of_getElem? (i := i - 0) (by rw [List.getElem?_take_of_lt (by omega), List.getElem?_drop, show 0 + (i - 0) = i by omega]; exact hi))
theorem xin_const_0 : ∀ w ∈ (xWconst.drop 0).take 100, w ∈ lw_tbl := by
  have h : (xWconst.drop 0).take 100 = ([390, 560, 561, 562, 715, 1204, 1273] : List Nat).filterMap (fun i => lw_tbl[i]?) := by decide +kernel
  intro w hw
  rw [h] at hw
  obtain ⟨i, -, hi⟩ := List.mem_filterMap.mp hw
  exact List.mem_of_getElem? hi
theorem xlen_const : xWconst.length ≤ 100 := by decide +kernel
theorem xin_const : ∀ w ∈ xWconst, w ∈ lw_tbl := by
  intro w hw
  obtain ⟨i, hi⟩ := List.getElem?_of_mem hw
  have hl : i < xWconst.length := (List.getElem?_eq_some_iff.mp hi).1
  have hb := xlen_const
  exact xin_const_0 w (List.mem_of_getElem? (i := i - 0) (by rw [List.getElem?_take_of_lt (by omega), List.getElem?_drop, show 0 + (i - 0) = i by omega]; exact hi))
theorem xin_class_0 : ∀ w ∈ (xWclass.drop 0).take 100, w ∈ lw_tbl := by
  have h : (xWclass.drop 0).take 100 = ([57, 65, 82, 88, 90, 92, 129, 269, 275, 310, 804] : List Nat).filterMap (fun i => lw_tbl[i]?) := by decide +kernel
  intro w hw
  rw [h] at hw
  obtain ⟨i, -, hi⟩ := List.mem_filterMap.mp hw
  exact List.mem_of_getElem? hi
theorem xlen_class : xWclass.length ≤ 100 := by decide +kernel
theorem xin_class : ∀ w ∈ xWclass, w ∈ lw_tbl := by
  intro w hw
  obtain ⟨i, hi⟩ := List.getElem?_of_mem hw
  have hl : i < xWclass.length := (List.getElem?_eq_some_iff.mp hi).1
  have hb := xlen_class
  exact xin_class_0 w (List.mem_of_getElem? (i := i - 0) (by rw [List.getElem?_take_of_lt (by omega), List.getElem?_drop, show 0 + (i - 0) = i by omega]; exact hi))
theorem xin_arr_0 : ∀ w ∈ (xWarr.drop 0).take 100, w ∈ lw_tbl := by
  have h : (xWarr.drop 0).take 100 = ([123, 330, 81] : List Nat).filterMap (fun i => lw_tbl[i]?) := by decide +kernel
  intro w hw
  rw [h] at hw
  obtain ⟨i, -, hi⟩ := List.mem_filterMap.mp hw
  exact List.mem_of_getElem? hi
theorem xlen_arr : xWarr.length ≤ 100 := by decide +kernel
theorem xin_arr : ∀ w ∈ xWarr, w ∈ lw_tbl := by
  intro w hw
  obtain ⟨i, hi⟩ := List.getElem?_of_mem hw
  have hl : i < xWarr.length := (List.getElem?_eq_some_iff.mp hi).1
  have hb := xlen_arr
  exact xin_arr_0 w (List.mem_of_getElem? (i := i - 0) (by rw [List.getElem?_take_of_lt (by omega), List.getElem?_drop, show 0 + (i - 0) = i by omega]; exact hi))
theorem xin_obj_0 : ∀ w ∈ (xWobj.drop 0).take 100, w ∈ lw_tbl := by
  have h : (xWobj.drop 0).take 100 = ([62, 70, 87, 97, 128, 134, 190, 274, 316, 809, 63, 64] : List Nat).filterMap (fun i => lw_tbl[i]?) := by decide +kernel
  intro w hw
  rw [h] at hw
  obtain ⟨i, -, hi⟩ := List.mem_filterMap.mp hw
  exact List.mem_of_getElem? hi
theorem xlen_obj : xWobj.length ≤ 100 := by decide +kernel
theorem xin_obj : ∀ w ∈ xWobj, w ∈ lw_tbl := by
  intro w hw
  obtain ⟨i, hi⟩ := List.getElem?_of_mem hw
  have hl : i < xWobj.length := (List.getElem?_eq_some_iff.mp hi).1
  have hb := xlen_obj
  exact xin_obj_0 w (List.mem_of_getElem? (i := i - 0) (by rw [List.getElem?_take_of_lt (by omega), List.getElem?_drop, show 0 + (i - 0) = i by omega]; exact hi))
theorem xin_copy_0 : ∀ w ∈ (xWcopy.drop 0).take 100, w ∈ lw_tbl := by
  have h : (xWcopy.drop 0).take 100 = ([676, 671, 652, 681, 803, 654, 653, 56, 769] : List Nat).filterMap (fun i => lw_tbl[i]?) := by decide +kernel
  intro w hw
  rw [h] at hw
  obtain ⟨i, -, hi⟩ := List.mem_filterMap.mp hw
  exact List.mem_of_getElem? hi
theorem xlen_copy : xWcopy.length ≤ 100 := by decide +kernel
theorem xin_copy : ∀ w ∈ xWcopy, w ∈ lw_tbl := by
  intro w hw
  obtain ⟨i, hi⟩ := List.getElem?_of_mem hw
  have hl : i < xWcopy.length := (List.getElem?_eq_some_iff.mp hi).1
  have hb := xlen_copy
  exact xin_copy_0 w (List.mem_of_getElem? (i := i - 0) (by rw [List.getElem?_take_of_lt (by omega), List.getElem?_drop, show 0 + (i - 0) = i by omega]; exact hi))
theorem xTs_in : ∀ w ∈ xTs, w ∈ lw_tbl := by
  intro w hw
  unfold xTs at hw
  simp only [List.mem_append] at hw
  rcases hw with h | h | h | h | h | h | h | h | h | h
  · exact xin_code w h
  · exact xin_link w h
  · exact xin_field w h
  · exact xin_lay w h
  · exact xin_inst w h
  · exact xin_const w h
  · exact xin_class w h
  · exact xin_arr w h
  · exact xin_obj w h
  · exact xin_copy w h
theorem xTs_good : xTs.all goodWord = true := by decide +kernel
theorem xGood {big ws : List Cond} (hw : ∀ w ∈ ws, w ∈ xTs) (hb : ∀ w ∈ xTs, w ∈ big) : GoodIn big ws := fun w h => ⟨hb w (hw w h), good_of_word (List.all_eq_true.mp xTs_good w (hw w h))⟩
theorem xT_code {w : Cond} (h : w ∈ xWcode) : w ∈ xTs := by unfold xTs; simp only [List.mem_append]; exact .inl h
theorem xT_link {w : Cond} (h : w ∈ xWlink) : w ∈ xTs := by unfold xTs; simp only [List.mem_append]; exact .inr (.inl h)
theorem xT_field {w : Cond} (h : w ∈ xWfield) : w ∈ xTs := by unfold xTs; simp only [List.mem_append]; exact .inr (.inr (.inl h))
theorem xT_lay {w : Cond} (h : w ∈ xWlay) : w ∈ xTs := by unfold xTs; simp only [List.mem_append]; exact .inr (.inr (.inr (.inl h)))
theorem xT_inst {w : Cond} (h : w ∈ xWinst) : w ∈ xTs := by unfold xTs; simp only [List.mem_append]; exact .inr (.inr (.inr (.inr (.inl h))))
theorem xT_const {w : Cond} (h : w ∈ xWconst) : w ∈ xTs := by unfold xTs; simp only [List.mem_append]; exact .inr (.inr (.inr (.inr (.inr (.inl h)))))
theorem xT_class {w : Cond} (h : w ∈ xWclass) : w ∈ xTs := by unfold xTs; simp only [List.mem_append]; exact .inr (.inr (.inr (.inr (.inr (.inr (.inl h))))))
theorem xT_arr {w : Cond} (h : w ∈ xWarr) : w ∈ xTs := by unfold xTs; simp only [List.mem_append]; exact .inr (.inr (.inr (.inr (.inr (.inr (.inr (.inl h)))))))
theorem xT_obj {w : Cond} (h : w ∈ xWobj) : w ∈ xTs := by unfold xTs; simp only [List.mem_append]; exact .inr (.inr (.inr (.inr (.inr (.inr (.inr (.inr (.inl h))))))))
theorem xT_copy {w : Cond} (h : w ∈ xWcopy) : w ∈ xTs := by unfold xTs; simp only [List.mem_append]; exact .inr (.inr (.inr (.inr (.inr (.inr (.inr (.inr (.inr h))))))))
