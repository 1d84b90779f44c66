theorem rs_mem_r {big ws : List Cond} (ps : List Nat) (hp : ws = ps.filterMap (fun i => big[i]?)) : ∀ w ∈ ws, w ∈ big := by
  intro w hw
  rw [hp] at hw
  obtain ⟨i, -, hi⟩ := List.mem_filterMap.mp hw
  first | exact List.mem_of_getElem? hi | exact List.getElem?_mem hi
set_option maxRecDepth 20000 in
theorem rs_in_wsL_law_r1 : ∀ w ∈ wsL_law_r1, w ∈ lw_tbl := rs_mem_r [48, 49, 35, 798, 799, 46, 50, 51, 52, 53, 54, 55, 56, 57, 36, 304, 305, 166, 167, 40, 306, 182, 183, 41] (by decide +kernel)
set_option maxRecDepth 20000 in
theorem rs_in_wsL_law_r2 : ∀ w ∈ wsL_law_r2, w ∈ lw_tbl := rs_mem_r [307, 233, 234, 42, 308, 247, 248, 43, 309, 270, 271, 44, 310, 283, 284, 45, 311, 58, 59, 60, 61, 62, 63, 37] (by decide +kernel)
set_option maxRecDepth 20000 in
theorem rs_in_wsL_law_r3 : ∀ w ∈ wsL_law_r3, w ∈ lw_tbl := rs_mem_r [138, 99, 100, 38, 144, 118, 119, 39, 149, 65, 66, 67, 68, 73, 76, 79, 81, 82, 83, 101, 102, 103, 104, 117] (by decide +kernel)
set_option maxRecDepth 20000 in
theorem rs_in_wsL_law_r4 : ∀ w ∈ wsL_law_r4, w ∈ lw_tbl := rs_mem_r [113, 105, 106, 107, 108, 109, 110, 111, 112, 120, 121, 122, 123, 124, 125, 126, 168, 169, 170, 171, 181, 172, 184, 185] (by decide +kernel)
set_option maxRecDepth 20000 in
theorem rs_in_wsL_law_r5 : ∀ w ∈ wsL_law_r5, w ∈ lw_tbl := rs_mem_r [186, 187, 188, 192, 190, 194, 196, 191, 235, 236, 237, 238, 246, 239, 240, 249, 250, 251, 252, 253, 255, 256, 272, 273] (by decide +kernel)
set_option maxRecDepth 20000 in
theorem rs_in_wsL_law_r6 : ∀ w ∈ wsL_law_r6, w ∈ lw_tbl := rs_mem_r [274, 275, 276, 277, 285, 286, 287, 288, 289, 290, 800, 801, 802, 803, 819, 820, 821, 822, 824, 826, 827, 828, 829, 832] (by decide +kernel)
set_option maxRecDepth 20000 in
theorem rs_in_wsL_law_r7 : ∀ w ∈ wsL_law_r7, w ∈ lw_tbl := rs_mem_r [833, 838, 840, 841, 842, 843, 845, 846, 929, 847, 813, 816, 817, 804, 806, 3, 807, 811, 812, 818, 823, 808, 809, 810] (by decide +kernel)
set_option maxRecDepth 20000 in
theorem rs_in_wsL_law_r8 : ∀ w ∈ wsL_law_r8, w ∈ lw_tbl := rs_mem_r [329, 330, 331, 332, 142, 71, 74, 148, 150, 128, 155, 333, 334, 335, 336, 930, 931, 932, 933, 934, 935, 936, 937, 938] (by decide +kernel)
set_option maxRecDepth 20000 in
theorem rs_in_wsL_law_r9 : ∀ w ∈ wsL_law_r9, w ∈ lw_tbl := rs_mem_r [337, 338, 339, 340, 341, 342, 343, 344, 345, 346, 347, 348, 349, 350, 351, 939, 940, 941, 942, 814, 815, 943, 945, 4] (by decide +kernel)
set_option maxRecDepth 20000 in
theorem rs_in_wsL_law_r10 : ∀ w ∈ wsL_law_r10, w ∈ lw_tbl := rs_mem_r [946, 947, 948, 949, 950, 952, 5, 953, 352, 353, 354, 355, 365, 366, 47, 367, 356, 358, 0, 359, 360, 361, 362, 363] (by decide +kernel)
set_option maxRecDepth 20000 in
theorem rs_in_wsL_law_r11 : ∀ w ∈ wsL_law_r11, w ∈ lw_tbl := rs_mem_r [364, 954, 955, 956, 957, 962, 958, 960, 6, 961, 368, 369, 370, 371, 174, 372, 373, 374, 375, 173, 963, 964, 965, 966] (by decide +kernel)
set_option maxRecDepth 20000 in
theorem rs_in_wsL_law_r12 : ∀ w ∈ wsL_law_r12, w ∈ lw_tbl := rs_mem_r [967, 968, 825, 376, 377, 378, 379, 969, 970, 971, 972, 380, 381, 382, 383, 384, 385, 386, 387, 388, 389, 390, 391, 392] (by decide +kernel)
set_option maxRecDepth 20000 in
theorem rs_in_wsL_law_r13 : ∀ w ∈ wsL_law_r13, w ∈ lw_tbl := rs_mem_r [393, 394, 395, 397, 398, 399, 400, 401, 402, 403, 404, 973, 974, 975, 976, 830, 977, 978, 405, 406, 407, 408, 207, 209] (by decide +kernel)
set_option maxRecDepth 20000 in
theorem rs_in_wsL_law_r14 : ∀ w ∈ wsL_law_r14, w ∈ lw_tbl := rs_mem_r [201, 203, 409, 411, 1, 412, 413, 414, 415, 416, 139, 146, 152, 198, 200, 202, 204, 206, 208, 210, 417, 418, 419, 420] (by decide +kernel)
set_option maxRecDepth 20000 in
theorem rs_in_wsL_law_r15 : ∀ w ∈ wsL_law_r15, w ∈ lw_tbl := rs_mem_r [421, 422, 423, 424, 426, 427, 429, 430, 431, 432, 433, 434, 175, 435, 436, 437, 438, 439, 440, 441, 442, 443, 444, 72] (by decide +kernel)
set_option maxRecDepth 20000 in
theorem rs_in_wsL_law_r16 : ∀ w ∈ wsL_law_r16, w ∈ lw_tbl := rs_mem_r [445, 446, 447, 448, 449, 450, 451, 452, 453, 454, 455, 456, 457, 458, 459, 460, 462, 463, 464, 465, 461, 467, 468, 470] (by decide +kernel)
set_option maxRecDepth 20000 in
theorem rs_in_wsL_law_r17 : ∀ w ∈ wsL_law_r17, w ∈ lw_tbl := rs_mem_r [471, 472, 473, 474, 475, 476, 477, 979, 980, 981, 982, 835, 836, 837, 831, 983, 985, 7, 986, 839, 987, 988, 990, 8] (by decide +kernel)
set_option maxRecDepth 20000 in
theorem rs_in_wsL_law_r18 : ∀ w ∈ wsL_law_r18, w ∈ lw_tbl := rs_mem_r [991, 834, 992, 994, 9, 995, 996, 998, 10, 999, 1000, 1002, 11, 1003, 1004, 1006, 12, 1007, 1008, 1010, 13, 1011, 1012, 1014] (by decide +kernel)
set_option maxRecDepth 20000 in
theorem rs_in_wsL_law_r19 : ∀ w ∈ wsL_law_r19, w ∈ lw_tbl := rs_mem_r [14, 1015, 1016, 1017, 1018, 1019, 1021, 15, 1022, 1023, 1025, 16, 1026, 1027, 1029, 17, 1030, 478, 479, 480, 481, 195, 197, 193] (by decide +kernel)
set_option maxRecDepth 20000 in
theorem rs_in_wsL_law_r20 : ∀ w ∈ wsL_law_r20, w ∈ lw_tbl := rs_mem_r [199, 482, 483, 484, 485, 486, 487, 488, 489, 490, 1031, 1032, 1033, 1034, 491, 492, 493, 494, 205, 495, 1035, 1036, 1037, 1038] (by decide +kernel)
set_option maxRecDepth 20000 in
theorem rs_in_wsL_law_r21 : ∀ w ∈ wsL_law_r21, w ∈ lw_tbl := rs_mem_r [496, 497, 498, 499, 500, 501, 502, 503, 1039, 1040, 1041, 1042, 1043, 1044, 1045, 1046, 504, 505, 506, 507, 508, 1047, 1048, 1049] (by decide +kernel)
set_option maxRecDepth 20000 in
theorem rs_in_wsL_law_r22 : ∀ w ∈ wsL_law_r22, w ∈ lw_tbl := rs_mem_r [1050, 509, 510, 511, 512, 513, 514, 515, 516, 517, 518, 519, 520, 521, 523, 524, 526, 527, 528, 529, 530, 531, 532, 533] (by decide +kernel)
set_option maxRecDepth 20000 in
theorem rs_in_wsL_law_r23 : ∀ w ∈ wsL_law_r23, w ∈ lw_tbl := rs_mem_r [534, 535, 536, 1051, 1052, 1053, 1054, 1055, 537, 538, 539, 540, 541, 542, 543, 544, 545, 1056, 1057, 1058, 1059, 546, 547, 548] (by decide +kernel)
set_option maxRecDepth 20000 in
theorem rs_in_wsL_law_r24 : ∀ w ∈ wsL_law_r24, w ∈ lw_tbl := rs_mem_r [549, 550, 551, 552, 553, 554, 555, 1060, 1061, 1062, 1063, 1064, 556, 557, 558, 559, 560, 561, 562, 563, 564, 565, 566, 567] (by decide +kernel)
set_option maxRecDepth 20000 in
theorem rs_in_wsL_law_r25 : ∀ w ∈ wsL_law_r25, w ∈ lw_tbl := rs_mem_r [1065, 1066, 1067, 1068, 568, 569, 570, 571, 572, 573, 574, 575, 153, 578, 576, 577, 1069, 1070, 1071, 1072, 1073, 1075, 18, 1076] (by decide +kernel)
set_option maxRecDepth 20000 in
theorem rs_in_wsL_law_r26 : ∀ w ∈ wsL_law_r26, w ∈ lw_tbl := rs_mem_r [1077, 1079, 19, 1080, 579, 580, 581, 582, 583, 584, 585, 586, 145, 140, 69, 598, 603, 604, 605, 587, 588, 589, 590, 592] (by decide +kernel)
set_option maxRecDepth 20000 in
theorem rs_in_wsL_law_r27 : ∀ w ∈ wsL_law_r27, w ∈ lw_tbl := rs_mem_r [593, 594, 595, 596, 599, 600, 601, 602, 1081, 1082, 1083, 1084, 1085, 1086, 1087, 1089, 20, 1090, 606, 607, 608, 609, 78, 610] (by decide +kernel)
set_option maxRecDepth 20000 in
theorem rs_in_wsL_law_r28 : ∀ w ∈ wsL_law_r28, w ∈ lw_tbl := rs_mem_r [1091, 1092, 1093, 1094, 611, 612, 613, 614, 615, 617, 2, 618, 619, 620, 621, 622, 623, 624, 625, 626, 1095, 1096, 1097, 1098] (by decide +kernel)
set_option maxRecDepth 20000 in
theorem rs_in_wsL_law_r29 : ∀ w ∈ wsL_law_r29, w ∈ lw_tbl := rs_mem_r [1099, 1101, 21, 1102, 1103, 1105, 22, 1106, 627, 628, 629, 630, 631, 632, 633, 634, 1107, 1108, 1109, 1110, 635, 636, 637, 638] (by decide +kernel)
set_option maxRecDepth 20000 in
theorem rs_in_wsL_law_r30 : ∀ w ∈ wsL_law_r30, w ∈ lw_tbl := rs_mem_r [639, 640, 641, 642, 643, 644, 646, 647, 648, 650, 651, 652, 653, 654, 655, 657, 658, 1111, 1112, 1113, 1114, 1115, 1116, 1117] (by decide +kernel)
set_option maxRecDepth 20000 in
theorem rs_in_wsL_law_r31 : ∀ w ∈ wsL_law_r31, w ∈ lw_tbl := rs_mem_r [1118, 1120, 23, 1121, 1122, 1124, 24, 1125, 1126, 1128, 25, 1129, 659, 660, 661, 662, 663, 664, 665, 666, 1130, 1131, 1132, 1133] (by decide +kernel)
set_option maxRecDepth 20000 in
theorem rs_in_wsL_law_r32 : ∀ w ∈ wsL_law_r32, w ∈ lw_tbl := rs_mem_r [1134, 1136, 26, 1137, 667, 668, 669, 670, 1138, 1139, 1140, 1141, 671, 672, 673, 674, 675, 676, 677, 678, 127, 1142, 1143, 1144] (by decide +kernel)
set_option maxRecDepth 20000 in
theorem rs_in_wsL_law_r33 : ∀ w ∈ wsL_law_r33, w ∈ lw_tbl := rs_mem_r [1145, 680, 681, 682, 683, 1146, 1147, 1148, 1149, 684, 685, 686, 687, 258, 260, 688, 689, 690, 691, 257, 259, 141, 70, 75] (by decide +kernel)
set_option maxRecDepth 20000 in
theorem rs_in_wsL_law_r34 : ∀ w ∈ wsL_law_r34, w ∈ lw_tbl := rs_mem_r [77, 151, 693, 694, 695, 696, 698, 80, 697, 699, 700, 701, 702, 704, 705, 706, 707, 708, 709, 1150, 1151, 1152, 1153, 844] (by decide +kernel)
set_option maxRecDepth 20000 in
theorem rs_in_wsL_law_r35 : ∀ w ∈ wsL_law_r35, w ∈ lw_tbl := rs_mem_r [1154, 1156, 27, 1157, 1158, 1160, 28, 1161, 1162, 1164, 29, 1165, 712, 713, 714, 715, 716, 717, 718, 719, 720, 721, 722, 723] (by decide +kernel)
set_option maxRecDepth 20000 in
theorem rs_in_wsL_law_r36 : ∀ w ∈ wsL_law_r36, w ∈ lw_tbl := rs_mem_r [724, 725, 1166, 1167, 1168, 1169, 1170, 1172, 30, 1173, 726, 727, 728, 729, 292, 294, 730, 731, 732, 733, 147, 293, 143, 154] (by decide +kernel)
set_option maxRecDepth 20000 in
theorem rs_in_wsL_law_r37 : ∀ w ∈ wsL_law_r37, w ∈ lw_tbl := rs_mem_r [742, 291, 735, 737, 738, 739, 740, 741, 743, 744, 745, 746, 1174, 1175, 1176, 1177, 1178, 1179, 1180, 1181, 1182, 747, 748, 749] (by decide +kernel)
set_option maxRecDepth 20000 in
theorem rs_in_wsL_law_r38 : ∀ w ∈ wsL_law_r38, w ∈ lw_tbl := rs_mem_r [750, 751, 752, 753, 754, 755, 756, 757, 758, 759, 760, 761, 762, 1183, 1184, 1185, 1186, 1187, 1189, 31, 1190, 764, 765, 766] (by decide +kernel)
set_option maxRecDepth 20000 in
theorem rs_in_wsL_law_r39 : ∀ w ∈ wsL_law_r39, w ∈ lw_tbl := rs_mem_r [767, 211, 768, 769, 770, 771, 772, 774, 1191, 1192, 1193, 1194, 1195, 1196, 1197, 775, 776, 777, 778, 779, 780, 781, 782, 783] (by decide +kernel)
set_option maxRecDepth 20000 in
theorem rs_in_wsL_law_r40 : ∀ w ∈ wsL_law_r40, w ∈ lw_tbl := rs_mem_r [784, 785, 786, 787, 788, 1198, 1199, 1200, 1201, 848, 849, 1202, 1204, 32, 1205, 1206, 1208, 33, 1209, 790, 791, 792, 793, 1210] (by decide +kernel)
set_option maxRecDepth 20000 in
theorem rs_in_wsL_law_r41 : ∀ w ∈ wsL_law_r41, w ∈ lw_tbl := rs_mem_r [1211, 1212, 1213, 794, 795, 796, 797, 1214, 1215, 1216, 1217, 1218] (by decide +kernel)
set_option maxRecDepth 20000 in
theorem rs_in_wsX100 : ∀ w ∈ wsX100, w ∈ lw_tbl := rs_mem_r [312, 314, 316, 318, 320, 322, 324, 326] (by decide +kernel)
set_option maxRecDepth 20000 in
theorem rs_in_wsX110 : ∀ w ∈ wsX110, w ∈ lw_tbl := rs_mem_r [850, 852, 854, 856, 858, 860, 862, 864, 866, 868, 870, 872, 874, 876, 878, 880, 882, 884, 886, 888, 890, 892, 894, 896, 898, 900, 902, 904, 906, 908, 910, 912, 914, 916, 918, 920, 922, 924, 926] (by decide +kernel)
set_option maxRecDepth 20000 in
theorem rs_in_wsX90 : ∀ w ∈ wsX90, w ∈ lw_tbl := rs_mem_r [156, 158, 160, 162] (by decide +kernel)
set_option maxRecDepth 20000 in
theorem rs_in_wsX30 : ∀ w ∈ wsX30, w ∈ lw_tbl := rs_mem_r [176, 178] (by decide +kernel)
set_option maxRecDepth 20000 in
theorem rs_in_wsX70 : ∀ w ∈ wsX70, w ∈ lw_tbl := rs_mem_r [212, 214, 216, 218, 220, 222, 224, 226, 228, 230] (by decide +kernel)
set_option maxRecDepth 20000 in
theorem rs_in_wsX80 : ∀ w ∈ wsX80, w ∈ lw_tbl := rs_mem_r [241, 243] (by decide +kernel)
set_option maxRecDepth 20000 in
theorem rs_in_wsX10 : ∀ w ∈ wsX10, w ∈ lw_tbl := rs_mem_r [261, 263, 265, 267] (by decide +kernel)
set_option maxRecDepth 20000 in
theorem rs_in_wsX00 : ∀ w ∈ wsX00, w ∈ lw_tbl := rs_mem_r [278, 280] (by decide +kernel)
set_option maxRecDepth 20000 in
theorem rs_in_wsX20 : ∀ w ∈ wsX20, w ∈ lw_tbl := rs_mem_r [295, 297, 299, 301] (by decide +kernel)
set_option maxRecDepth 20000 in
theorem rs_in_wsX40 : ∀ w ∈ wsX40, w ∈ lw_tbl := rs_mem_r [84, 86, 88, 90, 92, 94, 96] (by decide +kernel)
set_option maxRecDepth 20000 in
theorem rs_in_wsX60 : ∀ w ∈ wsX60, w ∈ lw_tbl := rs_mem_r [114] (by decide +kernel)
set_option maxRecDepth 20000 in
theorem rs_in_wsX50 : ∀ w ∈ wsX50, w ∈ lw_tbl := rs_mem_r [129, 131, 133, 135] (by decide +kernel)
theorem wsL_law_in : ∀ w ∈ wsL_law, w ∈ lw_tbl := (List.forall_mem_append.mpr ⟨(List.forall_mem_append.mpr ⟨(List.forall_mem_append.mpr ⟨(List.forall_mem_append.mpr ⟨(List.forall_mem_append.mpr ⟨(List.forall_mem_append.mpr ⟨(List.forall_mem_append.mpr ⟨(List.forall_mem_append.mpr ⟨(List.forall_mem_append.mpr ⟨(List.forall_mem_append.mpr ⟨(List.forall_mem_append.mpr ⟨(List.forall_mem_append.mpr ⟨(List.forall_mem_append.mpr ⟨(List.forall_mem_append.mpr ⟨rs_in_wsL_law_r1, (List.forall_mem_append.mpr ⟨rs_in_wsL_law_r2, (List.forall_mem_append.mpr ⟨rs_in_wsL_law_r3, (List.forall_mem_append.mpr ⟨rs_in_wsL_law_r4, (List.forall_mem_append.mpr ⟨rs_in_wsL_law_r5, (List.forall_mem_append.mpr ⟨rs_in_wsL_law_r6, (List.forall_mem_append.mpr ⟨rs_in_wsL_law_r7, (List.forall_mem_append.mpr ⟨rs_in_wsL_law_r8, (List.forall_mem_append.mpr ⟨rs_in_wsL_law_r9, (List.forall_mem_append.mpr ⟨rs_in_wsL_law_r10, (List.forall_mem_append.mpr ⟨rs_in_wsL_law_r11, (List.forall_mem_append.mpr ⟨rs_in_wsL_law_r12, (List.forall_mem_append.mpr ⟨rs_in_wsL_law_r13, (List.forall_mem_append.mpr ⟨rs_in_wsL_law_r14, (List.forall_mem_append.mpr ⟨rs_in_wsL_law_r15, (List.forall_mem_append.mpr ⟨rs_in_wsL_law_r16, (List.forall_mem_append.mpr ⟨rs_in_wsL_law_r17, (List.forall_mem_append.mpr ⟨rs_in_wsL_law_r18, (List.forall_mem_append.mpr ⟨rs_in_wsL_law_r19, (List.forall_mem_append.mpr ⟨rs_in_wsL_law_r20, (List.forall_mem_append.mpr ⟨rs_in_wsL_law_r21, (List.forall_mem_append.mpr ⟨rs_in_wsL_law_r22, (List.forall_mem_append.mpr ⟨rs_in_wsL_law_r23, (List.forall_mem_append.mpr ⟨rs_in_wsL_law_r24, (List.forall_mem_append.mpr ⟨rs_in_wsL_law_r25, (List.forall_mem_append.mpr ⟨rs_in_wsL_law_r26, (List.forall_mem_append.mpr ⟨rs_in_wsL_law_r27, (List.forall_mem_append.mpr ⟨rs_in_wsL_law_r28, (List.forall_mem_append.mpr ⟨rs_in_wsL_law_r29, (List.forall_mem_append.mpr ⟨rs_in_wsL_law_r30, (List.forall_mem_append.mpr ⟨rs_in_wsL_law_r31, (List.forall_mem_append.mpr ⟨rs_in_wsL_law_r32, (List.forall_mem_append.mpr ⟨rs_in_wsL_law_r33, (List.forall_mem_append.mpr ⟨rs_in_wsL_law_r34, (List.forall_mem_append.mpr ⟨rs_in_wsL_law_r35, (List.forall_mem_append.mpr ⟨rs_in_wsL_law_r36, (List.forall_mem_append.mpr ⟨rs_in_wsL_law_r37, (List.forall_mem_append.mpr ⟨rs_in_wsL_law_r38, (List.forall_mem_append.mpr ⟨rs_in_wsL_law_r39, (List.forall_mem_append.mpr ⟨rs_in_wsL_law_r40, rs_in_wsL_law_r41⟩)⟩)⟩)⟩)⟩)⟩)⟩)⟩)⟩)⟩)⟩)⟩)⟩)⟩)⟩)⟩)⟩)⟩)⟩)⟩)⟩)⟩)⟩)⟩)⟩)⟩)⟩)⟩)⟩)⟩)⟩)⟩)⟩)⟩)⟩)⟩)⟩)⟩)⟩)⟩), rs_in_wsX100⟩), rs_in_wsX110⟩), rs_in_wsX90⟩), rs_in_wsX30⟩), rs_in_wsX70⟩), rs_in_wsX80⟩), rs_in_wsX10⟩), rs_in_wsX00⟩), rs_in_wsX20⟩), rs_in_wsX40⟩), rs_in_wsX60⟩), rs_in_wsX50⟩), (fun _ h => absurd h List.not_mem_nil)⟩)
theorem inlX0 : ∀ w ∈ wsX00, w ∈ wsL_law := fun _ h => List.mem_append_left _ (List.mem_append_left _ (List.mem_append_left _ (List.mem_append_left _ (List.mem_append_left _ (List.mem_append_right _ h)))))
theorem inX0 : ∀ w ∈ wsX00, w ∈ lw_tbl := fun w h => wsL_law_in w (inlX0 w h)
theorem inlX1 : ∀ w ∈ wsX10, w ∈ wsL_law := fun _ h => List.mem_append_left _ (List.mem_append_left _ (List.mem_append_left _ (List.mem_append_left _ (List.mem_append_left _ (List.mem_append_left _ (List.mem_append_right _ h))))))
theorem inX1 : ∀ w ∈ wsX10, w ∈ lw_tbl := fun w h => wsL_law_in w (inlX1 w h)
theorem inlX2 : ∀ w ∈ wsX20, w ∈ wsL_law := fun _ h => List.mem_append_left _ (List.mem_append_left _ (List.mem_append_left _ (List.mem_append_left _ (List.mem_append_right _ h))))
theorem inX2 : ∀ w ∈ wsX20, w ∈ lw_tbl := fun w h => wsL_law_in w (inlX2 w h)
theorem inlX3 : ∀ w ∈ wsX30, w ∈ wsL_law := fun _ h => List.mem_append_left _ (List.mem_append_left _ (List.mem_append_left _ (List.mem_append_left _ (List.mem_append_left _ (List.mem_append_left _ (List.mem_append_left _ (List.mem_append_left _ (List.mem_append_left _ (List.mem_append_right _ h)))))))))
theorem inX3 : ∀ w ∈ wsX30, w ∈ lw_tbl := fun w h => wsL_law_in w (inlX3 w h)
theorem inlX4 : ∀ w ∈ wsX40, w ∈ wsL_law := fun _ h => List.mem_append_left _ (List.mem_append_left _ (List.mem_append_left _ (List.mem_append_right _ h)))
theorem inX4 : ∀ w ∈ wsX40, w ∈ lw_tbl := fun w h => wsL_law_in w (inlX4 w h)
theorem inlX5 : ∀ w ∈ wsX50, w ∈ wsL_law := fun _ h => List.mem_append_left _ (List.mem_append_right _ h)
theorem inX5 : ∀ w ∈ wsX50, w ∈ lw_tbl := fun w h => wsL_law_in w (inlX5 w h)
theorem inlX6 : ∀ w ∈ wsX60, w ∈ wsL_law := fun _ h => List.mem_append_left _ (List.mem_append_left _ (List.mem_append_right _ h))
theorem inX6 : ∀ w ∈ wsX60, w ∈ lw_tbl := fun w h => wsL_law_in w (inlX6 w h)
theorem inlX7 : ∀ w ∈ wsX70, w ∈ wsL_law := fun _ h => List.mem_append_left _ (List.mem_append_left _ (List.mem_append_left _ (List.mem_append_left _ (List.mem_append_left _ (List.mem_append_left _ (List.mem_append_left _ (List.mem_append_left _ (List.mem_append_right _ h))))))))
theorem inX7 : ∀ w ∈ wsX70, w ∈ lw_tbl := fun w h => wsL_law_in w (inlX7 w h)
theorem inlX8 : ∀ w ∈ wsX80, w ∈ wsL_law := fun _ h => List.mem_append_left _ (List.mem_append_left _ (List.mem_append_left _ (List.mem_append_left _ (List.mem_append_left _ (List.mem_append_left _ (List.mem_append_left _ (List.mem_append_right _ h)))))))
theorem inX8 : ∀ w ∈ wsX80, w ∈ lw_tbl := fun w h => wsL_law_in w (inlX8 w h)
theorem inlX9 : ∀ w ∈ wsX90, w ∈ wsL_law := fun _ h => List.mem_append_left _ (List.mem_append_left _ (List.mem_append_left _ (List.mem_append_left _ (List.mem_append_left _ (List.mem_append_left _ (List.mem_append_left _ (List.mem_append_left _ (List.mem_append_left _ (List.mem_append_left _ (List.mem_append_right _ h))))))))))
theorem inX9 : ∀ w ∈ wsX90, w ∈ lw_tbl := fun w h => wsL_law_in w (inlX9 w h)
theorem inlX10 : ∀ w ∈ wsX100, w ∈ wsL_law := fun _ h => List.mem_append_left _ (List.mem_append_left _ (List.mem_append_left _ (List.mem_append_left _ (List.mem_append_left _ (List.mem_append_left _ (List.mem_append_left _ (List.mem_append_left _ (List.mem_append_left _ (List.mem_append_left _ (List.mem_append_left _ (List.mem_append_left _ (List.mem_append_right _ h))))))))))))
theorem inX10 : ∀ w ∈ wsX100, w ∈ lw_tbl := fun w h => wsL_law_in w (inlX10 w h)
theorem inlX11 : ∀ w ∈ wsX110, w ∈ wsL_law := fun _ h => List.mem_append_left _ (List.mem_append_left _ (List.mem_append_left _ (List.mem_append_left _ (List.mem_append_left _ (List.mem_append_left _ (List.mem_append_left _ (List.mem_append_left _ (List.mem_append_left _ (List.mem_append_left _ (List.mem_append_left _ (List.mem_append_right _ h)))))))))))
theorem inX11 : ∀ w ∈ wsX110, w ∈ lw_tbl := fun w h => wsL_law_in w (inlX11 w h)
theorem inJ9 : ∀ w ∈ wsJ90, w ∈ lw_tbl := by decide +kernel
theorem dX0_init_0 : decode cX0_init 0 = .ok (.aload_n 0, 1) := by decide +kernel
theorem dX0_init_1 : decode cX0_init 1 = .ok (.invokespecial 3, 3) := by decide +kernel
theorem dX0_init_4 : decode cX0_init 4 = .ok (.aload_n 0, 1) := by decide +kernel
theorem dX0_init_5 : decode cX0_init 5 = .ok (.sipush 892, 3) := by decide +kernel
theorem dX0_init_8 : decode cX0_init 8 = .ok (.newarray .int, 2) := by decide +kernel
theorem dX0_init_10 : decode cX0_init 10 = .ok (.putfield 9, 3) := by decide +kernel
theorem dX0_init_13 : decode cX0_init 13 = .ok (.aload_n 0, 1) := by decide +kernel
theorem dX0_init_14 : decode cX0_init 14 = .ok (.sipush 892, 3) := by decide +kernel
theorem dX0_init_17 : decode cX0_init 17 = .ok (.newarray .int, 2) := by decide +kernel
theorem dX0_init_19 : decode cX0_init 19 = .ok (.putfield 15, 3) := by decide +kernel
theorem dX0_init_22 : decode cX0_init 22 = .ok (.return_, 1) := by decide +kernel
set_option maxRecDepth 20000 in
theorem ggX0_fewestSteps_X6_together : GoodIn wsX0_fewestSteps wsX6_together := goodIn_r _ [17, 18, 19, 20, 16, 21, 22, 86] (by decide +kernel) (by decide +kernel)
set_option maxRecDepth 20000 in
theorem gX0_fewestSteps_X6_together : GoodIn wsX0_fewestSteps (wsV RX0 34 RX6 yX6_together wsX6_together) := goodIn_app (goodIn_of _ (by decide +kernel)) ggX0_fewestSteps_X6_together
set_option maxRecDepth 20000 in
theorem ggX0_fewestSteps_X10_put : GoodIn wsX0_fewestSteps wsX10_put := goodIn_r _ [25] (by decide +kernel) (by decide +kernel)
set_option maxRecDepth 20000 in
theorem gX0_fewestSteps_X10_put_n40 : GoodIn wsX0_fewestSteps (wsX10_put) := ggX0_fewestSteps_X10_put
set_option maxRecDepth 20000 in
theorem ggX0_fewestSteps_X9_needOf : GoodIn wsX0_fewestSteps wsX9_needOf := goodIn_r _ [30, 31, 32, 33, 34, 35, 8, 36, 37, 19, 20, 16, 21, 22, 38, 39, 40, 41, 42, 43, 44, 45, 46, 47, 48, 49, 50, 51, 52, 53, 54, 55, 56, 57, 58, 59, 60, 61, 73, 74, 75, 76, 86, 77, 78, 79, 80, 81, 82, 83] (by decide +kernel) (by decide +kernel)
set_option maxRecDepth 20000 in
theorem gX0_fewestSteps_X9_needOf : GoodIn wsX0_fewestSteps (wsV RX0 44 RX9 yX9_needOf wsX9_needOf) := goodIn_app (goodIn_of _ (by decide +kernel)) ggX0_fewestSteps_X9_needOf
set_option maxRecDepth 20000 in
theorem ggX0_fewestSteps_X6_of : GoodIn wsX0_fewestSteps wsX6_of := goodIn_r _ [21, 22, 86] (by decide +kernel) (by decide +kernel)
set_option maxRecDepth 20000 in
theorem gX0_fewestSteps_X6_of : GoodIn wsX0_fewestSteps (wsV RX0 48 RX6 yX6_of wsX6_of) := goodIn_app (goodIn_of _ (by decide +kernel)) ggX0_fewestSteps_X6_of
set_option maxRecDepth 20000 in
theorem ggX0_fewestSteps_X0_cheapest : GoodIn wsX0_fewestSteps wsX0_cheapest := goodIn_r _ [66, 67, 24, 68] (by decide +kernel) (by decide +kernel)
set_option maxRecDepth 20000 in
theorem gX0_fewestSteps_X0_cheapest : GoodIn wsX0_fewestSteps (va_wsS RX0 51 yX0_cheapest wsX0_cheapest) := goodIn_app (goodIn_of _ (by decide +kernel)) ggX0_fewestSteps_X0_cheapest
set_option maxRecDepth 20000 in
theorem ggX0_fewestSteps_X0_nearest : GoodIn wsX0_fewestSteps wsX0_nearest := goodIn_r _ [71, 6, 7, 8, 9, 72, 35, 36] (by decide +kernel) (by decide +kernel)
set_option maxRecDepth 20000 in
theorem gX0_fewestSteps_X0_nearest : GoodIn wsX0_fewestSteps (va_wsS RX0 60 yX0_nearest wsX0_nearest) := goodIn_app (goodIn_of _ (by decide +kernel)) ggX0_fewestSteps_X0_nearest
set_option maxRecDepth 20000 in
theorem ggX0_fewestSteps_X10_at : GoodIn wsX0_fewestSteps wsX10_at := goodIn_r _ [68] (by decide +kernel) (by decide +kernel)
set_option maxRecDepth 20000 in
theorem gX0_fewestSteps_X10_at_n64 : GoodIn wsX0_fewestSteps (wsX10_at) := ggX0_fewestSteps_X10_at
theorem dX0_fewestSteps_0 : decode cX0_fewestSteps 0 = .ok (.aload_n 1, 1) := by decide +kernel
theorem dX0_fewestSteps_1 : decode cX0_fewestSteps 1 = .ok (.getfield 18, 3) := by decide +kernel
theorem dX0_fewestSteps_4 : decode cX0_fewestSteps 4 = .ok (.astore_n 3, 1) := by decide +kernel
theorem dX0_fewestSteps_5 : decode cX0_fewestSteps 5 = .ok (.aload_n 3, 1) := by decide +kernel
theorem dX0_fewestSteps_6 : decode cX0_fewestSteps 6 = .ok (.aload_n 1, 1) := by decide +kernel
theorem dX0_fewestSteps_7 : decode cX0_fewestSteps 7 = .ok (.getfield 24, 3) := by decide +kernel
theorem dX0_fewestSteps_10 : decode cX0_fewestSteps 10 = .ok (.getfield 28, 3) := by decide +kernel
theorem dX0_fewestSteps_13 : decode cX0_fewestSteps 13 = .ok (.invokevirtual 34, 3) := by decide +kernel
theorem dX0_fewestSteps_16 : decode cX0_fewestSteps 16 = .ok (.istore 4, 2) := by decide +kernel
theorem dX0_fewestSteps_18 : decode cX0_fewestSteps 18 = .ok (.aload_n 0, 1) := by decide +kernel
theorem dX0_fewestSteps_19 : decode cX0_fewestSteps 19 = .ok (.getfield 9, 3) := by decide +kernel
theorem dX0_fewestSteps_22 : decode cX0_fewestSteps 22 = .ok (.astore 5, 2) := by decide +kernel
theorem dX0_fewestSteps_24 : decode cX0_fewestSteps 24 = .ok (.aload_n 0, 1) := by decide +kernel
theorem dX0_fewestSteps_25 : decode cX0_fewestSteps 25 = .ok (.getfield 15, 3) := by decide +kernel
theorem dX0_fewestSteps_28 : decode cX0_fewestSteps 28 = .ok (.astore 6, 2) := by decide +kernel
theorem dX0_fewestSteps_30 : decode cX0_fewestSteps 30 = .ok (.iconst 0, 1) := by decide +kernel
theorem dX0_fewestSteps_31 : decode cX0_fewestSteps 31 = .ok (.istore 7, 2) := by decide +kernel
theorem dX0_fewestSteps_33 : decode cX0_fewestSteps 33 = .ok (.iconst 0, 1) := by decide +kernel
theorem dX0_fewestSteps_34 : decode cX0_fewestSteps 34 = .ok (.istore 8, 2) := by decide +kernel
theorem dX0_fewestSteps_36 : decode cX0_fewestSteps 36 = .ok (.aload 5, 2) := by decide +kernel
theorem dX0_fewestSteps_38 : decode cX0_fewestSteps 38 = .ok (.iconst 0, 1) := by decide +kernel
theorem dX0_fewestSteps_39 : decode cX0_fewestSteps 39 = .ok (.iconst 0, 1) := by decide +kernel
theorem dX0_fewestSteps_40 : decode cX0_fewestSteps 40 = .ok (.invokestatic 40, 3) := by decide +kernel
theorem dX0_fewestSteps_43 : decode cX0_fewestSteps 43 = .ok (.iconst 0, 1) := by decide +kernel
theorem dX0_fewestSteps_44 : decode cX0_fewestSteps 44 = .ok (.istore 9, 2) := by decide +kernel
theorem dX0_fewestSteps_46 : decode cX0_fewestSteps 46 = .ok (.iload 9, 2) := by decide +kernel
theorem dX0_fewestSteps_48 : decode cX0_fewestSteps 48 = .ok (.aload_n 1, 1) := by decide +kernel
theorem dX0_fewestSteps_49 : decode cX0_fewestSteps 49 = .ok (.getfield 24, 3) := by decide +kernel
theorem dX0_fewestSteps_52 : decode cX0_fewestSteps 52 = .ok (.getfield 28, 3) := by decide +kernel
theorem dX0_fewestSteps_55 : decode cX0_fewestSteps 55 = .ok (.if_icmp .ge 156, 3) := by decide +kernel
theorem dX0_fewestSteps_58 : decode cX0_fewestSteps 58 = .ok (.aload_n 1, 1) := by decide +kernel
theorem dX0_fewestSteps_59 : decode cX0_fewestSteps 59 = .ok (.iload 9, 2) := by decide +kernel
theorem dX0_fewestSteps_61 : decode cX0_fewestSteps 61 = .ok (.iload_n 2, 1) := by decide +kernel
theorem dX0_fewestSteps_62 : decode cX0_fewestSteps 62 = .ok (.invokevirtual 44, 3) := by decide +kernel
theorem dX0_fewestSteps_65 : decode cX0_fewestSteps 65 = .ok (.istore 10, 2) := by decide +kernel
theorem dX0_fewestSteps_67 : decode cX0_fewestSteps 67 = .ok (.iload 10, 2) := by decide +kernel
theorem dX0_fewestSteps_69 : decode cX0_fewestSteps 69 = .ok (.bipush (-6), 2) := by decide +kernel
theorem dX0_fewestSteps_71 : decode cX0_fewestSteps 71 = .ok (.if_icmp .eq 13, 3) := by decide +kernel
theorem dX0_fewestSteps_74 : decode cX0_fewestSteps 74 = .ok (.iload 7, 2) := by decide +kernel
theorem dX0_fewestSteps_76 : decode cX0_fewestSteps 76 = .ok (.iload 10, 2) := by decide +kernel
theorem dX0_fewestSteps_78 : decode cX0_fewestSteps 78 = .ok (.iadd, 1) := by decide +kernel
theorem dX0_fewestSteps_79 : decode cX0_fewestSteps 79 = .ok (.iload 4, 2) := by decide +kernel
theorem dX0_fewestSteps_81 : decode cX0_fewestSteps 81 = .ok (.if_icmp .le 6, 3) := by decide +kernel
theorem dX0_fewestSteps_84 : decode cX0_fewestSteps 84 = .ok (.bipush (-6), 2) := by decide +kernel
theorem dX0_fewestSteps_86 : decode cX0_fewestSteps 86 = .ok (.ireturn, 1) := by decide +kernel
theorem dX0_fewestSteps_87 : decode cX0_fewestSteps 87 = .ok (.aload_n 3, 1) := by decide +kernel
theorem dX0_fewestSteps_88 : decode cX0_fewestSteps 88 = .ok (.iload 9, 2) := by decide +kernel
theorem dX0_fewestSteps_90 : decode cX0_fewestSteps 90 = .ok (.iconst 3, 1) := by decide +kernel
theorem dX0_fewestSteps_91 : decode cX0_fewestSteps 91 = .ok (.invokevirtual 48, 3) := by decide +kernel
theorem dX0_fewestSteps_94 : decode cX0_fewestSteps 94 = .ok (.istore 11, 2) := by decide +kernel
theorem dX0_fewestSteps_96 : decode cX0_fewestSteps 96 = .ok (.aload 5, 2) := by decide +kernel
theorem dX0_fewestSteps_98 : decode cX0_fewestSteps 98 = .ok (.iload 7, 2) := by decide +kernel
theorem dX0_fewestSteps_100 : decode cX0_fewestSteps 100 = .ok (.iload 8, 2) := by decide +kernel
theorem dX0_fewestSteps_102 : decode cX0_fewestSteps 102 = .ok (.invokestatic 51, 3) := by decide +kernel
theorem dX0_fewestSteps_105 : decode cX0_fewestSteps 105 = .ok (.istore 12, 2) := by decide +kernel
theorem dX0_fewestSteps_107 : decode cX0_fewestSteps 107 = .ok (.iload 7, 2) := by decide +kernel
theorem dX0_fewestSteps_109 : decode cX0_fewestSteps 109 = .ok (.iload 10, 2) := by decide +kernel
theorem dX0_fewestSteps_111 : decode cX0_fewestSteps 111 = .ok (.iadd, 1) := by decide +kernel
theorem dX0_fewestSteps_112 : decode cX0_fewestSteps 112 = .ok (.istore 7, 2) := by decide +kernel
theorem dX0_fewestSteps_114 : decode cX0_fewestSteps 114 = .ok (.iload 8, 2) := by decide +kernel
theorem dX0_fewestSteps_116 : decode cX0_fewestSteps 116 = .ok (.iload 11, 2) := by decide +kernel
theorem dX0_fewestSteps_118 : decode cX0_fewestSteps 118 = .ok (.iadd, 1) := by decide +kernel
theorem dX0_fewestSteps_119 : decode cX0_fewestSteps 119 = .ok (.iload 4, 2) := by decide +kernel
theorem dX0_fewestSteps_121 : decode cX0_fewestSteps 121 = .ok (.invokestatic 55, 3) := by decide +kernel
theorem dX0_fewestSteps_124 : decode cX0_fewestSteps 124 = .ok (.istore 8, 2) := by decide +kernel
theorem dX0_fewestSteps_126 : decode cX0_fewestSteps 126 = .ok (.aload_n 3, 1) := by decide +kernel
theorem dX0_fewestSteps_127 : decode cX0_fewestSteps 127 = .ok (.iload 9, 2) := by decide +kernel
theorem dX0_fewestSteps_129 : decode cX0_fewestSteps 129 = .ok (.iconst 1, 1) := by decide +kernel
theorem dX0_fewestSteps_130 : decode cX0_fewestSteps 130 = .ok (.iadd, 1) := by decide +kernel
theorem dX0_fewestSteps_131 : decode cX0_fewestSteps 131 = .ok (.invokevirtual 34, 3) := by decide +kernel
theorem dX0_fewestSteps_134 : decode cX0_fewestSteps 134 = .ok (.istore 13, 2) := by decide +kernel
theorem dX0_fewestSteps_136 : decode cX0_fewestSteps 136 = .ok (.iload 7, 2) := by decide +kernel
theorem dX0_fewestSteps_138 : decode cX0_fewestSteps 138 = .ok (.istore 14, 2) := by decide +kernel
theorem dX0_fewestSteps_140 : decode cX0_fewestSteps 140 = .ok (.iload 14, 2) := by decide +kernel
theorem dX0_fewestSteps_142 : decode cX0_fewestSteps 142 = .ok (.iload 8, 2) := by decide +kernel
theorem dX0_fewestSteps_144 : decode cX0_fewestSteps 144 = .ok (.if_icmp .gt 49, 3) := by decide +kernel
theorem dX0_fewestSteps_147 : decode cX0_fewestSteps 147 = .ok (.iload 12, 2) := by decide +kernel
theorem dX0_fewestSteps_149 : decode cX0_fewestSteps 149 = .ok (.iload 14, 2) := by decide +kernel
theorem dX0_fewestSteps_151 : decode cX0_fewestSteps 151 = .ok (.iload 11, 2) := by decide +kernel
theorem dX0_fewestSteps_153 : decode cX0_fewestSteps 153 = .ok (.isub, 1) := by decide +kernel
theorem dX0_fewestSteps_154 : decode cX0_fewestSteps 154 = .ok (.iload 14, 2) := by decide +kernel
theorem dX0_fewestSteps_156 : decode cX0_fewestSteps 156 = .ok (.iload 10, 2) := by decide +kernel
theorem dX0_fewestSteps_158 : decode cX0_fewestSteps 158 = .ok (.isub, 1) := by decide +kernel
theorem dX0_fewestSteps_159 : decode cX0_fewestSteps 159 = .ok (.invokestatic 60, 3) := by decide +kernel
theorem dX0_fewestSteps_162 : decode cX0_fewestSteps 162 = .ok (.istore 15, 2) := by decide +kernel
theorem dX0_fewestSteps_164 : decode cX0_fewestSteps 164 = .ok (.aload 6, 2) := by decide +kernel
theorem dX0_fewestSteps_166 : decode cX0_fewestSteps 166 = .ok (.iload 14, 2) := by decide +kernel
theorem dX0_fewestSteps_168 : decode cX0_fewestSteps 168 = .ok (.aload 5, 2) := by decide +kernel
theorem dX0_fewestSteps_170 : decode cX0_fewestSteps 170 = .ok (.iload 15, 2) := by decide +kernel
theorem dX0_fewestSteps_172 : decode cX0_fewestSteps 172 = .ok (.invokestatic 64, 3) := by decide +kernel
theorem dX0_fewestSteps_175 : decode cX0_fewestSteps 175 = .ok (.iload 14, 2) := by decide +kernel
theorem dX0_fewestSteps_177 : decode cX0_fewestSteps 177 = .ok (.iload 13, 2) := by decide +kernel
theorem dX0_fewestSteps_179 : decode cX0_fewestSteps 179 = .ok (.isub, 1) := by decide +kernel
theorem dX0_fewestSteps_180 : decode cX0_fewestSteps 180 = .ok (.invokestatic 68, 3) := by decide +kernel
theorem dX0_fewestSteps_183 : decode cX0_fewestSteps 183 = .ok (.iadd, 1) := by decide +kernel
theorem dX0_fewestSteps_184 : decode cX0_fewestSteps 184 = .ok (.invokestatic 40, 3) := by decide +kernel
theorem dX0_fewestSteps_187 : decode cX0_fewestSteps 187 = .ok (.iinc 14 1, 3) := by decide +kernel
theorem dX0_fewestSteps_190 : decode cX0_fewestSteps 190 = .ok (.goto (-50), 3) := by decide +kernel
theorem dX0_fewestSteps_193 : decode cX0_fewestSteps 193 = .ok (.aload 5, 2) := by decide +kernel
theorem dX0_fewestSteps_195 : decode cX0_fewestSteps 195 = .ok (.astore 14, 2) := by decide +kernel
theorem dX0_fewestSteps_197 : decode cX0_fewestSteps 197 = .ok (.aload 6, 2) := by decide +kernel
theorem dX0_fewestSteps_199 : decode cX0_fewestSteps 199 = .ok (.astore 5, 2) := by decide +kernel
theorem dX0_fewestSteps_201 : decode cX0_fewestSteps 201 = .ok (.aload 14, 2) := by decide +kernel
theorem dX0_fewestSteps_203 : decode cX0_fewestSteps 203 = .ok (.astore 6, 2) := by decide +kernel
theorem dX0_fewestSteps_205 : decode cX0_fewestSteps 205 = .ok (.iinc 9 1, 3) := by decide +kernel
theorem dX0_fewestSteps_208 : decode cX0_fewestSteps 208 = .ok (.goto (-162), 3) := by decide +kernel
theorem dX0_fewestSteps_211 : decode cX0_fewestSteps 211 = .ok (.iload 8, 2) := by decide +kernel
theorem dX0_fewestSteps_213 : decode cX0_fewestSteps 213 = .ok (.iload 4, 2) := by decide +kernel
theorem dX0_fewestSteps_215 : decode cX0_fewestSteps 215 = .ok (.if_icmp .ne 13, 3) := by decide +kernel
theorem dX0_fewestSteps_218 : decode cX0_fewestSteps 218 = .ok (.aload 5, 2) := by decide +kernel
theorem dX0_fewestSteps_220 : decode cX0_fewestSteps 220 = .ok (.iload 4, 2) := by decide +kernel
theorem dX0_fewestSteps_222 : decode cX0_fewestSteps 222 = .ok (.invokestatic 64, 3) := by decide +kernel
theorem dX0_fewestSteps_225 : decode cX0_fewestSteps 225 = .ok (.goto 5, 3) := by decide +kernel
theorem dX0_fewestSteps_228 : decode cX0_fewestSteps 228 = .ok (.bipush (-6), 2) := by decide +kernel
theorem dX0_fewestSteps_230 : decode cX0_fewestSteps 230 = .ok (.ireturn, 1) := by decide +kernel
set_option maxRecDepth 20000 in
theorem ggX0_cheapest_X10_at : GoodIn wsX0_cheapest wsX10_at := goodIn_r _ [3] (by decide +kernel) (by decide +kernel)
set_option maxRecDepth 20000 in
theorem gX0_cheapest_X10_at_n64 : GoodIn wsX0_cheapest (wsX10_at) := ggX0_cheapest_X10_at
theorem dX0_cheapest_0 : decode cX0_cheapest 0 = .ok (.iload_n 1, 1) := by decide +kernel
theorem dX0_cheapest_1 : decode cX0_cheapest 1 = .ok (.istore_n 3, 1) := by decide +kernel
theorem dX0_cheapest_2 : decode cX0_cheapest 2 = .ok (.iload_n 1, 1) := by decide +kernel
theorem dX0_cheapest_3 : decode cX0_cheapest 3 = .ok (.iconst 1, 1) := by decide +kernel
theorem dX0_cheapest_4 : decode cX0_cheapest 4 = .ok (.iadd, 1) := by decide +kernel
theorem dX0_cheapest_5 : decode cX0_cheapest 5 = .ok (.istore 4, 2) := by decide +kernel
theorem dX0_cheapest_7 : decode cX0_cheapest 7 = .ok (.iload 4, 2) := by decide +kernel
theorem dX0_cheapest_9 : decode cX0_cheapest 9 = .ok (.iload_n 2, 1) := by decide +kernel
theorem dX0_cheapest_10 : decode cX0_cheapest 10 = .ok (.if_icmp .gt 26, 3) := by decide +kernel
theorem dX0_cheapest_13 : decode cX0_cheapest 13 = .ok (.aload_n 0, 1) := by decide +kernel
theorem dX0_cheapest_14 : decode cX0_cheapest 14 = .ok (.iload 4, 2) := by decide +kernel
theorem dX0_cheapest_16 : decode cX0_cheapest 16 = .ok (.invokestatic 64, 3) := by decide +kernel
theorem dX0_cheapest_19 : decode cX0_cheapest 19 = .ok (.aload_n 0, 1) := by decide +kernel
theorem dX0_cheapest_20 : decode cX0_cheapest 20 = .ok (.iload_n 3, 1) := by decide +kernel
theorem dX0_cheapest_21 : decode cX0_cheapest 21 = .ok (.invokestatic 64, 3) := by decide +kernel
theorem dX0_cheapest_24 : decode cX0_cheapest 24 = .ok (.if_icmp .ge 6, 3) := by decide +kernel
theorem dX0_cheapest_27 : decode cX0_cheapest 27 = .ok (.iload 4, 2) := by decide +kernel
theorem dX0_cheapest_29 : decode cX0_cheapest 29 = .ok (.istore_n 3, 1) := by decide +kernel
theorem dX0_cheapest_30 : decode cX0_cheapest 30 = .ok (.iinc 4 1, 3) := by decide +kernel
theorem dX0_cheapest_33 : decode cX0_cheapest 33 = .ok (.goto (-26), 3) := by decide +kernel
theorem dX0_cheapest_36 : decode cX0_cheapest 36 = .ok (.iload_n 3, 1) := by decide +kernel
theorem dX0_cheapest_37 : decode cX0_cheapest 37 = .ok (.ireturn, 1) := by decide +kernel
theorem dX0_nearest_0 : decode cX0_nearest 0 = .ok (.iload_n 1, 1) := by decide +kernel
theorem dX0_nearest_1 : decode cX0_nearest 1 = .ok (.iload_n 0, 1) := by decide +kernel
theorem dX0_nearest_2 : decode cX0_nearest 2 = .ok (.iload_n 2, 1) := by decide +kernel
theorem dX0_nearest_3 : decode cX0_nearest 3 = .ok (.invokestatic 55, 3) := by decide +kernel
theorem dX0_nearest_6 : decode cX0_nearest 6 = .ok (.invokestatic 71, 3) := by decide +kernel
theorem dX0_nearest_9 : decode cX0_nearest 9 = .ok (.ireturn, 1) := by decide +kernel
set_option maxRecDepth 20000 in
theorem ggX1_init_X4_init : GoodIn wsX1_init wsX4_init := goodIn_r _ [11, 12, 2, 3, 13, 14, 15, 16, 17, 18, 19, 20, 21, 22, 23, 24, 25, 26] (by decide +kernel) (by decide +kernel)
set_option maxRecDepth 20000 in
theorem gX1_init_X4_init_n11 : GoodIn wsX1_init (wsX4_init) := ggX1_init_X4_init
theorem dX1_init_0 : decode cX1_init 0 = .ok (.aload_n 0, 1) := by decide +kernel
theorem dX1_init_1 : decode cX1_init 1 = .ok (.invokespecial 3, 3) := by decide +kernel
theorem dX1_init_4 : decode cX1_init 4 = .ok (.aload_n 0, 1) := by decide +kernel
theorem dX1_init_5 : decode cX1_init 5 = .ok (.new 9, 3) := by decide +kernel
theorem dX1_init_8 : decode cX1_init 8 = .ok (.dup, 1) := by decide +kernel
theorem dX1_init_9 : decode cX1_init 9 = .ok (.invokespecial 11, 3) := by decide +kernel
theorem dX1_init_12 : decode cX1_init 12 = .ok (.putfield 12, 3) := by decide +kernel
theorem dX1_init_15 : decode cX1_init 15 = .ok (.aload_n 0, 1) := by decide +kernel
theorem dX1_init_16 : decode cX1_init 16 = .ok (.bipush 9, 2) := by decide +kernel
theorem dX1_init_18 : decode cX1_init 18 = .ok (.newarray .int, 2) := by decide +kernel
theorem dX1_init_20 : decode cX1_init 20 = .ok (.putfield 18, 3) := by decide +kernel
theorem dX1_init_23 : decode cX1_init 23 = .ok (.return_, 1) := by decide +kernel
set_option maxRecDepth 20000 in
theorem ggX1_take_X10_clear : GoodIn wsX1_take wsX10_clear := goodIn_r _ [12] (by decide +kernel) (by decide +kernel)
set_option maxRecDepth 20000 in
theorem gX1_take_X10_clear_n29 : GoodIn wsX1_take (wsX10_clear) := ggX1_take_X10_clear
set_option maxRecDepth 20000 in
theorem ggX1_take_X1_takeAges : GoodIn wsX1_take wsX1_takeAges := goodIn_r _ [17, 4, 8, 18, 19, 20, 21, 22, 1, 7, 2, 23, 24, 25, 26, 27, 28, 29, 30, 31, 32, 33, 34, 35, 36, 37, 38, 39, 11, 40, 41, 42, 43, 44, 45, 46, 47, 48, 49, 50, 51, 52, 53, 54, 16, 55, 3, 56, 57, 58, 59, 60, 61, 66, 67, 68, 69, 70, 71, 72, 73, 74, 75, 76] (by decide +kernel) (by decide +kernel)
set_option maxRecDepth 20000 in
theorem gX1_take_X1_takeAges : GoodIn wsX1_take (wsV RX1 51 RX1 yX1_takeAges wsX1_takeAges) := goodIn_app (goodIn_of _ (by decide +kernel)) ggX1_take_X1_takeAges
theorem dX1_take_0 : decode cX1_take 0 = .ok (.aload_n 0, 1) := by decide +kernel
theorem dX1_take_1 : decode cX1_take 1 = .ok (.iconst 0, 1) := by decide +kernel
theorem dX1_take_2 : decode cX1_take 2 = .ok (.putfield 22, 3) := by decide +kernel
theorem dX1_take_5 : decode cX1_take 5 = .ok (.aload_n 0, 1) := by decide +kernel
theorem dX1_take_6 : decode cX1_take 6 = .ok (.bipush (-6), 2) := by decide +kernel
theorem dX1_take_8 : decode cX1_take 8 = .ok (.putfield 26, 3) := by decide +kernel
theorem dX1_take_11 : decode cX1_take 11 = .ok (.aload_n 0, 1) := by decide +kernel
theorem dX1_take_12 : decode cX1_take 12 = .ok (.getfield 18, 3) := by decide +kernel
theorem dX1_take_15 : decode cX1_take 15 = .ok (.invokestatic 29, 3) := by decide +kernel
theorem dX1_take_18 : decode cX1_take 18 = .ok (.aload_n 0, 1) := by decide +kernel
theorem dX1_take_19 : decode cX1_take 19 = .ok (.getfield 12, 3) := by decide +kernel
theorem dX1_take_22 : decode cX1_take 22 = .ok (.aload_n 1, 1) := by decide +kernel
theorem dX1_take_23 : decode cX1_take 23 = .ok (.getfield 33, 3) := by decide +kernel
theorem dX1_take_26 : decode cX1_take 26 = .ok (.getfield 38, 3) := by decide +kernel
theorem dX1_take_29 : decode cX1_take 29 = .ok (.putfield 38, 3) := by decide +kernel
theorem dX1_take_32 : decode cX1_take 32 = .ok (.iconst 1, 1) := by decide +kernel
theorem dX1_take_33 : decode cX1_take 33 = .ok (.istore 4, 2) := by decide +kernel
theorem dX1_take_35 : decode cX1_take 35 = .ok (.iload 4, 2) := by decide +kernel
theorem dX1_take_37 : decode cX1_take 37 = .ok (.aload_n 0, 1) := by decide +kernel
theorem dX1_take_38 : decode cX1_take 38 = .ok (.getfield 12, 3) := by decide +kernel
theorem dX1_take_41 : decode cX1_take 41 = .ok (.getfield 38, 3) := by decide +kernel
theorem dX1_take_44 : decode cX1_take 44 = .ok (.if_icmp .ge 60, 3) := by decide +kernel
theorem dX1_take_47 : decode cX1_take 47 = .ok (.iload 4, 2) := by decide +kernel
theorem dX1_take_49 : decode cX1_take 49 = .ok (.bipush 8, 2) := by decide +kernel
theorem dX1_take_51 : decode cX1_take 51 = .ok (.if_icmp .gt 53, 3) := by decide +kernel
theorem dX1_take_54 : decode cX1_take 54 = .ok (.iconst 1, 1) := by decide +kernel
theorem dX1_take_55 : decode cX1_take 55 = .ok (.istore 5, 2) := by decide +kernel
theorem dX1_take_57 : decode cX1_take 57 = .ok (.iload 5, 2) := by decide +kernel
theorem dX1_take_59 : decode cX1_take 59 = .ok (.bipush 9, 2) := by decide +kernel
theorem dX1_take_61 : decode cX1_take 61 = .ok (.if_icmp .gt 37, 3) := by decide +kernel
theorem dX1_take_64 : decode cX1_take 64 = .ok (.aload_n 0, 1) := by decide +kernel
theorem dX1_take_65 : decode cX1_take 65 = .ok (.getfield 12, 3) := by decide +kernel
theorem dX1_take_68 : decode cX1_take 68 = .ok (.iload 4, 2) := by decide +kernel
theorem dX1_take_70 : decode cX1_take 70 = .ok (.putfield 41, 3) := by decide +kernel
theorem dX1_take_73 : decode cX1_take 73 = .ok (.aload_n 0, 1) := by decide +kernel
theorem dX1_take_74 : decode cX1_take 74 = .ok (.getfield 12, 3) := by decide +kernel
theorem dX1_take_77 : decode cX1_take 77 = .ok (.iload 5, 2) := by decide +kernel
theorem dX1_take_79 : decode cX1_take 79 = .ok (.putfield 44, 3) := by decide +kernel
theorem dX1_take_82 : decode cX1_take 82 = .ok (.aload_n 0, 1) := by decide +kernel
theorem dX1_take_83 : decode cX1_take 83 = .ok (.aload_n 1, 1) := by decide +kernel
theorem dX1_take_84 : decode cX1_take 84 = .ok (.getfield 47, 3) := by decide +kernel
theorem dX1_take_87 : decode cX1_take 87 = .ok (.iload_n 2, 1) := by decide +kernel
theorem dX1_take_88 : decode cX1_take 88 = .ok (.iload_n 3, 1) := by decide +kernel
theorem dX1_take_89 : decode cX1_take 89 = .ok (.invokevirtual 51, 3) := by decide +kernel
theorem dX1_take_92 : decode cX1_take 92 = .ok (.iinc 5 1, 3) := by decide +kernel
theorem dX1_take_95 : decode cX1_take 95 = .ok (.goto (-38), 3) := by decide +kernel
theorem dX1_take_98 : decode cX1_take 98 = .ok (.iinc 4 1, 3) := by decide +kernel
theorem dX1_take_101 : decode cX1_take 101 = .ok (.goto (-66), 3) := by decide +kernel
theorem dX1_take_104 : decode cX1_take 104 = .ok (.return_, 1) := by decide +kernel
set_option maxRecDepth 20000 in
theorem ggX1_takeAges_X4_turn : GoodIn wsX1_takeAges wsX4_turn := goodIn_r _ [15, 16, 17, 53, 54, 55, 56, 57, 58, 59] (by decide +kernel) (by decide +kernel)
set_option maxRecDepth 20000 in
theorem gX1_takeAges_X4_turn : GoodIn wsX1_takeAges (wsV RX1 55 RX4 yX4_turn wsX4_turn) := goodIn_app (goodIn_of _ (by decide +kernel)) ggX1_takeAges_X4_turn
set_option maxRecDepth 20000 in
theorem ggX1_takeAges_X5_fit : GoodIn wsX1_takeAges wsX5_fit := goodIn_r _ [22, 23, 24, 25, 26, 27, 28, 29, 30, 31, 32, 14, 33, 17, 34, 35, 36, 37, 16, 38, 39, 60, 61, 62, 63, 53, 54, 55, 56, 57, 58, 59] (by decide +kernel) (by decide +kernel)
set_option maxRecDepth 20000 in
theorem gX1_takeAges_X5_fit : GoodIn wsX1_takeAges (wsV RX1 68 RX5 yX5_fit wsX5_fit) := goodIn_app (goodIn_of _ (by decide +kernel)) ggX1_takeAges_X5_fit
set_option maxRecDepth 20000 in
theorem ggX1_takeAges_X4_firstAt : GoodIn wsX1_takeAges wsX4_firstAt := goodIn_r _ [37, 16, 17, 38, 39, 53, 54, 55, 56, 57, 58, 59] (by decide +kernel) (by decide +kernel)
set_option maxRecDepth 20000 in
theorem gX1_takeAges_X4_firstAt : GoodIn wsX1_takeAges (wsV RX1 74 RX4 yX4_firstAt wsX4_firstAt) := goodIn_app (goodIn_of _ (by decide +kernel)) ggX1_takeAges_X4_firstAt
set_option maxRecDepth 20000 in
theorem ggX1_takeAges_X1_countCovered : GoodIn wsX1_takeAges wsX1_countCovered := goodIn_r _ [45, 1, 9, 46, 27, 28, 29, 47, 48, 49, 50, 51, 52, 53, 54, 55, 56, 57, 58, 59] (by decide +kernel) (by decide +kernel)
set_option maxRecDepth 20000 in
theorem gX1_takeAges_X1_countCovered : GoodIn wsX1_takeAges (wsV RX1 78 RX1 yX1_countCovered wsX1_countCovered) := goodIn_app (goodIn_of _ (by decide +kernel)) ggX1_takeAges_X1_countCovered
theorem dX1_takeAges_0 : decode cX1_takeAges 0 = .ok (.aload_n 0, 1) := by decide +kernel
theorem dX1_takeAges_1 : decode cX1_takeAges 1 = .ok (.getfield 12, 3) := by decide +kernel
theorem dX1_takeAges_4 : decode cX1_takeAges 4 = .ok (.invokevirtual 55, 3) := by decide +kernel
theorem dX1_takeAges_7 : decode cX1_takeAges 7 = .ok (.aload_n 0, 1) := by decide +kernel
theorem dX1_takeAges_8 : decode cX1_takeAges 8 = .ok (.getfield 12, 3) := by decide +kernel
theorem dX1_takeAges_11 : decode cX1_takeAges 11 = .ok (.getfield 44, 3) := by decide +kernel
theorem dX1_takeAges_14 : decode cX1_takeAges 14 = .ok (.imul, 1) := by decide +kernel
theorem dX1_takeAges_15 : decode cX1_takeAges 15 = .ok (.bipush 100, 2) := by decide +kernel
theorem dX1_takeAges_17 : decode cX1_takeAges 17 = .ok (.invokestatic 59, 3) := by decide +kernel
theorem dX1_takeAges_20 : decode cX1_takeAges 20 = .ok (.istore 4, 2) := by decide +kernel
theorem dX1_takeAges_22 : decode cX1_takeAges 22 = .ok (.iconst 0, 1) := by decide +kernel
theorem dX1_takeAges_23 : decode cX1_takeAges 23 = .ok (.istore 5, 2) := by decide +kernel
theorem dX1_takeAges_25 : decode cX1_takeAges 25 = .ok (.iload 5, 2) := by decide +kernel
theorem dX1_takeAges_27 : decode cX1_takeAges 27 = .ok (.iload 4, 2) := by decide +kernel
theorem dX1_takeAges_29 : decode cX1_takeAges 29 = .ok (.if_icmp .ge 93, 3) := by decide +kernel
theorem dX1_takeAges_32 : decode cX1_takeAges 32 = .ok (.aload_n 0, 1) := by decide +kernel
theorem dX1_takeAges_33 : decode cX1_takeAges 33 = .ok (.getfield 12, 3) := by decide +kernel
theorem dX1_takeAges_36 : decode cX1_takeAges 36 = .ok (.iload 5, 2) := by decide +kernel
theorem dX1_takeAges_38 : decode cX1_takeAges 38 = .ok (.putfield 65, 3) := by decide +kernel
theorem dX1_takeAges_41 : decode cX1_takeAges 41 = .ok (.aload_n 1, 1) := by decide +kernel
theorem dX1_takeAges_42 : decode cX1_takeAges 42 = .ok (.aload_n 0, 1) := by decide +kernel
theorem dX1_takeAges_43 : decode cX1_takeAges 43 = .ok (.getfield 12, 3) := by decide +kernel
theorem dX1_takeAges_46 : decode cX1_takeAges 46 = .ok (.invokevirtual 68, 3) := by decide +kernel
theorem dX1_takeAges_49 : decode cX1_takeAges 49 = .ok (.ifCond .eq 67, 3) := by decide +kernel
theorem dX1_takeAges_52 : decode cX1_takeAges 52 = .ok (.aload_n 0, 1) := by decide +kernel
theorem dX1_takeAges_53 : decode cX1_takeAges 53 = .ok (.getfield 22, 3) := by decide +kernel
theorem dX1_takeAges_56 : decode cX1_takeAges 56 = .ok (.iload_n 2, 1) := by decide +kernel
theorem dX1_takeAges_57 : decode cX1_takeAges 57 = .ok (.if_icmp .ne 32, 3) := by decide +kernel
theorem dX1_takeAges_60 : decode cX1_takeAges 60 = .ok (.aload_n 0, 1) := by decide +kernel
theorem dX1_takeAges_61 : decode cX1_takeAges 61 = .ok (.sipush 1000, 3) := by decide +kernel
theorem dX1_takeAges_64 : decode cX1_takeAges 64 = .ok (.aload_n 0, 1) := by decide +kernel
theorem dX1_takeAges_65 : decode cX1_takeAges 65 = .ok (.getfield 12, 3) := by decide +kernel
theorem dX1_takeAges_68 : decode cX1_takeAges 68 = .ok (.getfield 41, 3) := by decide +kernel
theorem dX1_takeAges_71 : decode cX1_takeAges 71 = .ok (.imul, 1) := by decide +kernel
theorem dX1_takeAges_72 : decode cX1_takeAges 72 = .ok (.bipush 100, 2) := by decide +kernel
theorem dX1_takeAges_74 : decode cX1_takeAges 74 = .ok (.aload_n 0, 1) := by decide +kernel
theorem dX1_takeAges_75 : decode cX1_takeAges 75 = .ok (.getfield 12, 3) := by decide +kernel
theorem dX1_takeAges_78 : decode cX1_takeAges 78 = .ok (.getfield 44, 3) := by decide +kernel
theorem dX1_takeAges_81 : decode cX1_takeAges 81 = .ok (.imul, 1) := by decide +kernel
theorem dX1_takeAges_82 : decode cX1_takeAges 82 = .ok (.iadd, 1) := by decide +kernel
theorem dX1_takeAges_83 : decode cX1_takeAges 83 = .ok (.iload 5, 2) := by decide +kernel
theorem dX1_takeAges_85 : decode cX1_takeAges 85 = .ok (.iadd, 1) := by decide +kernel
theorem dX1_takeAges_86 : decode cX1_takeAges 86 = .ok (.putfield 26, 3) := by decide +kernel
theorem dX1_takeAges_89 : decode cX1_takeAges 89 = .ok (.iload_n 3, 1) := by decide +kernel
theorem dX1_takeAges_90 : decode cX1_takeAges 90 = .ok (.iconst (-1), 1) := by decide +kernel
theorem dX1_takeAges_91 : decode cX1_takeAges 91 = .ok (.if_icmp .eq 15, 3) := by decide +kernel
theorem dX1_takeAges_94 : decode cX1_takeAges 94 = .ok (.aload_n 0, 1) := by decide +kernel
theorem dX1_takeAges_95 : decode cX1_takeAges 95 = .ok (.aload_n 0, 1) := by decide +kernel
theorem dX1_takeAges_96 : decode cX1_takeAges 96 = .ok (.getfield 12, 3) := by decide +kernel
theorem dX1_takeAges_99 : decode cX1_takeAges 99 = .ok (.iload_n 3, 1) := by decide +kernel
theorem dX1_takeAges_100 : decode cX1_takeAges 100 = .ok (.invokevirtual 74, 3) := by decide +kernel
theorem dX1_takeAges_103 : decode cX1_takeAges 103 = .ok (.invokevirtual 78, 3) := by decide +kernel
theorem dX1_takeAges_106 : decode cX1_takeAges 106 = .ok (.aload_n 0, 1) := by decide +kernel
theorem dX1_takeAges_107 : decode cX1_takeAges 107 = .ok (.dup, 1) := by decide +kernel
theorem dX1_takeAges_108 : decode cX1_takeAges 108 = .ok (.getfield 22, 3) := by decide +kernel
theorem dX1_takeAges_111 : decode cX1_takeAges 111 = .ok (.iconst 1, 1) := by decide +kernel
theorem dX1_takeAges_112 : decode cX1_takeAges 112 = .ok (.iadd, 1) := by decide +kernel
theorem dX1_takeAges_113 : decode cX1_takeAges 113 = .ok (.putfield 22, 3) := by decide +kernel
theorem dX1_takeAges_116 : decode cX1_takeAges 116 = .ok (.iinc 5 1, 3) := by decide +kernel
theorem dX1_takeAges_119 : decode cX1_takeAges 119 = .ok (.goto (-94), 3) := by decide +kernel
theorem dX1_takeAges_122 : decode cX1_takeAges 122 = .ok (.return_, 1) := by decide +kernel
set_option maxRecDepth 20000 in
theorem ggX1_countCovered_X10_at : GoodIn wsX1_countCovered wsX10_at := goodIn_r _ [6] (by decide +kernel) (by decide +kernel)
set_option maxRecDepth 20000 in
theorem gX1_countCovered_X10_at_n82 : GoodIn wsX1_countCovered (wsX10_at) := ggX1_countCovered_X10_at
set_option maxRecDepth 20000 in
theorem ggX1_countCovered_X10_put : GoodIn wsX1_countCovered wsX10_put := goodIn_r _ [8] (by decide +kernel) (by decide +kernel)
set_option maxRecDepth 20000 in
theorem gX1_countCovered_X10_put_n86 : GoodIn wsX1_countCovered (wsX10_put) := ggX1_countCovered_X10_put
theorem dX1_countCovered_0 : decode cX1_countCovered 0 = .ok (.iload_n 1, 1) := by decide +kernel
theorem dX1_countCovered_1 : decode cX1_countCovered 1 = .ok (.istore_n 2, 1) := by decide +kernel
theorem dX1_countCovered_2 : decode cX1_countCovered 2 = .ok (.iload_n 2, 1) := by decide +kernel
theorem dX1_countCovered_3 : decode cX1_countCovered 3 = .ok (.iload_n 1, 1) := by decide +kernel
theorem dX1_countCovered_4 : decode cX1_countCovered 4 = .ok (.aload_n 0, 1) := by decide +kernel
theorem dX1_countCovered_5 : decode cX1_countCovered 5 = .ok (.getfield 12, 3) := by decide +kernel
theorem dX1_countCovered_8 : decode cX1_countCovered 8 = .ok (.getfield 41, 3) := by decide +kernel
theorem dX1_countCovered_11 : decode cX1_countCovered 11 = .ok (.iadd, 1) := by decide +kernel
theorem dX1_countCovered_12 : decode cX1_countCovered 12 = .ok (.if_icmp .ge 27, 3) := by decide +kernel
theorem dX1_countCovered_15 : decode cX1_countCovered 15 = .ok (.aload_n 0, 1) := by decide +kernel
theorem dX1_countCovered_16 : decode cX1_countCovered 16 = .ok (.getfield 18, 3) := by decide +kernel
theorem dX1_countCovered_19 : decode cX1_countCovered 19 = .ok (.iload_n 2, 1) := by decide +kernel
theorem dX1_countCovered_20 : decode cX1_countCovered 20 = .ok (.aload_n 0, 1) := by decide +kernel
theorem dX1_countCovered_21 : decode cX1_countCovered 21 = .ok (.getfield 18, 3) := by decide +kernel
theorem dX1_countCovered_24 : decode cX1_countCovered 24 = .ok (.iload_n 2, 1) := by decide +kernel
theorem dX1_countCovered_25 : decode cX1_countCovered 25 = .ok (.invokestatic 82, 3) := by decide +kernel
theorem dX1_countCovered_28 : decode cX1_countCovered 28 = .ok (.iconst 1, 1) := by decide +kernel
theorem dX1_countCovered_29 : decode cX1_countCovered 29 = .ok (.iadd, 1) := by decide +kernel
theorem dX1_countCovered_30 : decode cX1_countCovered 30 = .ok (.invokestatic 86, 3) := by decide +kernel
theorem dX1_countCovered_33 : decode cX1_countCovered 33 = .ok (.iinc 2 1, 3) := by decide +kernel
theorem dX1_countCovered_36 : decode cX1_countCovered 36 = .ok (.goto (-34), 3) := by decide +kernel
theorem dX1_countCovered_39 : decode cX1_countCovered 39 = .ok (.return_, 1) := by decide +kernel
set_option maxRecDepth 20000 in
theorem ggX1_leftAtMost_X10_at : GoodIn wsX1_leftAtMost wsX10_at := goodIn_r _ [9] (by decide +kernel) (by decide +kernel)
set_option maxRecDepth 20000 in
theorem gX1_leftAtMost_X10_at_n82 : GoodIn wsX1_leftAtMost (wsX10_at) := ggX1_leftAtMost_X10_at
theorem dX1_leftAtMost_0 : decode cX1_leftAtMost 0 = .ok (.aload_n 0, 1) := by decide +kernel
theorem dX1_leftAtMost_1 : decode cX1_leftAtMost 1 = .ok (.getfield 18, 3) := by decide +kernel
theorem dX1_leftAtMost_4 : decode cX1_leftAtMost 4 = .ok (.iload_n 1, 1) := by decide +kernel
theorem dX1_leftAtMost_5 : decode cX1_leftAtMost 5 = .ok (.invokestatic 82, 3) := by decide +kernel
theorem dX1_leftAtMost_8 : decode cX1_leftAtMost 8 = .ok (.istore_n 2, 1) := by decide +kernel
theorem dX1_leftAtMost_9 : decode cX1_leftAtMost 9 = .ok (.iload_n 2, 1) := by decide +kernel
theorem dX1_leftAtMost_10 : decode cX1_leftAtMost 10 = .ok (.aload_n 0, 1) := by decide +kernel
theorem dX1_leftAtMost_11 : decode cX1_leftAtMost 11 = .ok (.getfield 22, 3) := by decide +kernel
theorem dX1_leftAtMost_14 : decode cX1_leftAtMost 14 = .ok (.iload_n 2, 1) := by decide +kernel
theorem dX1_leftAtMost_15 : decode cX1_leftAtMost 15 = .ok (.isub, 1) := by decide +kernel
theorem dX1_leftAtMost_16 : decode cX1_leftAtMost 16 = .ok (.invokestatic 90, 3) := by decide +kernel
theorem dX1_leftAtMost_19 : decode cX1_leftAtMost 19 = .ok (.ireturn, 1) := by decide +kernel
set_option maxRecDepth 20000 in
theorem ggX1_bestLook_X1_leftAtMost : GoodIn wsX1_bestLook wsX1_leftAtMost := goodIn_r _ [5, 6, 7, 8, 9, 10, 11, 12, 13, 14, 15, 16, 17, 18] (by decide +kernel) (by decide +kernel)
set_option maxRecDepth 20000 in
theorem gX1_bestLook_X1_leftAtMost : GoodIn wsX1_bestLook (wsV RX1 93 RX1 yX1_leftAtMost wsX1_leftAtMost) := goodIn_app (goodIn_of _ (by decide +kernel)) ggX1_bestLook_X1_leftAtMost
theorem dX1_bestLook_0 : decode cX1_bestLook 0 = .ok (.iconst 0, 1) := by decide +kernel
theorem dX1_bestLook_1 : decode cX1_bestLook 1 = .ok (.istore_n 2, 1) := by decide +kernel
theorem dX1_bestLook_2 : decode cX1_bestLook 2 = .ok (.iconst 1, 1) := by decide +kernel
theorem dX1_bestLook_3 : decode cX1_bestLook 3 = .ok (.istore_n 3, 1) := by decide +kernel
theorem dX1_bestLook_4 : decode cX1_bestLook 4 = .ok (.iload_n 3, 1) := by decide +kernel
theorem dX1_bestLook_5 : decode cX1_bestLook 5 = .ok (.iload_n 1, 1) := by decide +kernel
theorem dX1_bestLook_6 : decode cX1_bestLook 6 = .ok (.if_icmp .ge 24, 3) := by decide +kernel
theorem dX1_bestLook_9 : decode cX1_bestLook 9 = .ok (.aload_n 0, 1) := by decide +kernel
theorem dX1_bestLook_10 : decode cX1_bestLook 10 = .ok (.iload_n 3, 1) := by decide +kernel
theorem dX1_bestLook_11 : decode cX1_bestLook 11 = .ok (.invokevirtual 93, 3) := by decide +kernel
theorem dX1_bestLook_14 : decode cX1_bestLook 14 = .ok (.aload_n 0, 1) := by decide +kernel
theorem dX1_bestLook_15 : decode cX1_bestLook 15 = .ok (.iload_n 2, 1) := by decide +kernel
theorem dX1_bestLook_16 : decode cX1_bestLook 16 = .ok (.invokevirtual 93, 3) := by decide +kernel
theorem dX1_bestLook_19 : decode cX1_bestLook 19 = .ok (.if_icmp .ge 5, 3) := by decide +kernel
theorem dX1_bestLook_22 : decode cX1_bestLook 22 = .ok (.iload_n 3, 1) := by decide +kernel
theorem dX1_bestLook_23 : decode cX1_bestLook 23 = .ok (.istore_n 2, 1) := by decide +kernel
theorem dX1_bestLook_24 : decode cX1_bestLook 24 = .ok (.iinc 3 1, 3) := by decide +kernel
theorem dX1_bestLook_27 : decode cX1_bestLook 27 = .ok (.goto (-23), 3) := by decide +kernel
theorem dX1_bestLook_30 : decode cX1_bestLook 30 = .ok (.iload_n 2, 1) := by decide +kernel
theorem dX1_bestLook_31 : decode cX1_bestLook 31 = .ok (.ireturn, 1) := by decide +kernel
theorem dX2_init_0 : decode cX2_init 0 = .ok (.aload_n 0, 1) := by decide +kernel
theorem dX2_init_1 : decode cX2_init 1 = .ok (.invokespecial 3, 3) := by decide +kernel
theorem dX2_init_4 : decode cX2_init 4 = .ok (.aload_n 0, 1) := by decide +kernel
theorem dX2_init_5 : decode cX2_init 5 = .ok (.bipush 100, 2) := by decide +kernel
theorem dX2_init_7 : decode cX2_init 7 = .ok (.newarray .long, 2) := by decide +kernel
theorem dX2_init_9 : decode cX2_init 9 = .ok (.putfield 9, 3) := by decide +kernel
theorem dX2_init_12 : decode cX2_init 12 = .ok (.aload_n 0, 1) := by decide +kernel
theorem dX2_init_13 : decode cX2_init 13 = .ok (.bipush 100, 2) := by decide +kernel
theorem dX2_init_15 : decode cX2_init 15 = .ok (.newarray .long, 2) := by decide +kernel
theorem dX2_init_17 : decode cX2_init 17 = .ok (.putfield 15, 3) := by decide +kernel
theorem dX2_init_20 : decode cX2_init 20 = .ok (.return_, 1) := by decide +kernel
set_option maxRecDepth 20000 in
theorem ggX2_pass_X10_clear_ : GoodIn wsX2_pass wsX10_clear_ := goodIn_r _ [11] (by decide +kernel) (by decide +kernel)
set_option maxRecDepth 20000 in
theorem gX2_pass_X10_clear__n18 : GoodIn wsX2_pass (wsX10_clear_) := ggX2_pass_X10_clear_
set_option maxRecDepth 20000 in
theorem ggX2_pass_X6_of : GoodIn wsX2_pass wsX6_of := goodIn_r _ [16, 17, 60] (by decide +kernel) (by decide +kernel)
set_option maxRecDepth 20000 in
theorem gX2_pass_X6_of : GoodIn wsX2_pass (wsV RX2 28 RX6 yX6_of wsX6_of) := goodIn_app (goodIn_of _ (by decide +kernel)) ggX2_pass_X6_of
set_option maxRecDepth 20000 in
theorem ggX2_pass_X10_add : GoodIn wsX2_pass wsX10_add := goodIn_r _ [19] (by decide +kernel) (by decide +kernel)
set_option maxRecDepth 20000 in
theorem gX2_pass_X10_add_n34 : GoodIn wsX2_pass (wsX10_add) := ggX2_pass_X10_add
set_option maxRecDepth 20000 in
theorem ggX2_pass_X4_isDark : GoodIn wsX2_pass wsX4_isDark := goodIn_r _ [24, 25, 26, 27, 23, 28, 29, 30, 31, 32, 33, 34, 35, 36, 37, 38, 39, 40, 41, 42, 43, 61, 62, 63, 64, 65, 66, 67] (by decide +kernel) (by decide +kernel)
set_option maxRecDepth 20000 in
theorem gX2_pass_X4_isDark : GoodIn wsX2_pass (wsV RX2 50 RX4 yX4_isDark wsX4_isDark) := goodIn_app (goodIn_of _ (by decide +kernel)) ggX2_pass_X4_isDark
set_option maxRecDepth 20000 in
theorem ggX2_pass_X2_spread : GoodIn wsX2_pass wsX2_spread := goodIn_r _ [47, 48, 49, 50, 51, 12, 13, 14, 15, 16, 17, 18, 10, 19, 60] (by decide +kernel) (by decide +kernel)
set_option maxRecDepth 20000 in
theorem gX2_pass_X2_spread : GoodIn wsX2_pass (va_wsS RX2 56 yX2_spread wsX2_spread) := goodIn_app (goodIn_of _ (by decide +kernel)) ggX2_pass_X2_spread
theorem dX2_pass_0 : decode cX2_pass 0 = .ok (.aload_n 0, 1) := by decide +kernel
theorem dX2_pass_1 : decode cX2_pass 1 = .ok (.getfield 9, 3) := by decide +kernel
theorem dX2_pass_4 : decode cX2_pass 4 = .ok (.astore 5, 2) := by decide +kernel
theorem dX2_pass_6 : decode cX2_pass 6 = .ok (.aload_n 0, 1) := by decide +kernel
theorem dX2_pass_7 : decode cX2_pass 7 = .ok (.getfield 15, 3) := by decide +kernel
theorem dX2_pass_10 : decode cX2_pass 10 = .ok (.astore 6, 2) := by decide +kernel
theorem dX2_pass_12 : decode cX2_pass 12 = .ok (.aload 5, 2) := by decide +kernel
theorem dX2_pass_14 : decode cX2_pass 14 = .ok (.invokestatic 18, 3) := by decide +kernel
theorem dX2_pass_17 : decode cX2_pass 17 = .ok (.aload 5, 2) := by decide +kernel
theorem dX2_pass_19 : decode cX2_pass 19 = .ok (.aload_n 1, 1) := by decide +kernel
theorem dX2_pass_20 : decode cX2_pass 20 = .ok (.getfield 22, 3) := by decide +kernel
theorem dX2_pass_23 : decode cX2_pass 23 = .ok (.iload_n 2, 1) := by decide +kernel
theorem dX2_pass_24 : decode cX2_pass 24 = .ok (.iconst 2, 1) := by decide +kernel
theorem dX2_pass_25 : decode cX2_pass 25 = .ok (.invokevirtual 28, 3) := by decide +kernel
theorem dX2_pass_28 : decode cX2_pass 28 = .ok (.lconst 1, 1) := by decide +kernel
theorem dX2_pass_29 : decode cX2_pass 29 = .ok (.invokestatic 34, 3) := by decide +kernel
theorem dX2_pass_32 : decode cX2_pass 32 = .ok (.aload_n 0, 1) := by decide +kernel
theorem dX2_pass_33 : decode cX2_pass 33 = .ok (.lconst 1, 1) := by decide +kernel
theorem dX2_pass_34 : decode cX2_pass 34 = .ok (.putfield 38, 3) := by decide +kernel
theorem dX2_pass_37 : decode cX2_pass 37 = .ok (.iconst 0, 1) := by decide +kernel
theorem dX2_pass_38 : decode cX2_pass 38 = .ok (.istore 7, 2) := by decide +kernel
theorem dX2_pass_40 : decode cX2_pass 40 = .ok (.iload 7, 2) := by decide +kernel
theorem dX2_pass_42 : decode cX2_pass 42 = .ok (.iload 4, 2) := by decide +kernel
theorem dX2_pass_44 : decode cX2_pass 44 = .ok (.if_icmp .ge 104, 3) := by decide +kernel
theorem dX2_pass_47 : decode cX2_pass 47 = .ok (.aload 6, 2) := by decide +kernel
theorem dX2_pass_49 : decode cX2_pass 49 = .ok (.invokestatic 18, 3) := by decide +kernel
theorem dX2_pass_52 : decode cX2_pass 52 = .ok (.aload_n 1, 1) := by decide +kernel
theorem dX2_pass_53 : decode cX2_pass 53 = .ok (.getfield 42, 3) := by decide +kernel
theorem dX2_pass_56 : decode cX2_pass 56 = .ok (.iload_n 2, 1) := by decide +kernel
theorem dX2_pass_57 : decode cX2_pass 57 = .ok (.aload_n 1, 1) := by decide +kernel
theorem dX2_pass_58 : decode cX2_pass 58 = .ok (.getfield 46, 3) := by decide +kernel
theorem dX2_pass_61 : decode cX2_pass 61 = .ok (.iload 7, 2) := by decide +kernel
theorem dX2_pass_63 : decode cX2_pass 63 = .ok (.iadd, 1) := by decide +kernel
theorem dX2_pass_64 : decode cX2_pass 64 = .ok (.invokevirtual 50, 3) := by decide +kernel
theorem dX2_pass_67 : decode cX2_pass 67 = .ok (.ifCond .eq 20, 3) := by decide +kernel
theorem dX2_pass_70 : decode cX2_pass 70 = .ok (.aload 5, 2) := by decide +kernel
theorem dX2_pass_72 : decode cX2_pass 72 = .ok (.aload 6, 2) := by decide +kernel
theorem dX2_pass_74 : decode cX2_pass 74 = .ok (.aload_n 1, 1) := by decide +kernel
theorem dX2_pass_75 : decode cX2_pass 75 = .ok (.getfield 22, 3) := by decide +kernel
theorem dX2_pass_78 : decode cX2_pass 78 = .ok (.iload_n 2, 1) := by decide +kernel
theorem dX2_pass_79 : decode cX2_pass 79 = .ok (.iconst 0, 1) := by decide +kernel
theorem dX2_pass_80 : decode cX2_pass 80 = .ok (.iconst 1, 1) := by decide +kernel
theorem dX2_pass_81 : decode cX2_pass 81 = .ok (.invokestatic 56, 3) := by decide +kernel
theorem dX2_pass_84 : decode cX2_pass 84 = .ok (.goto 46, 3) := by decide +kernel
theorem dX2_pass_87 : decode cX2_pass 87 = .ok (.aload 5, 2) := by decide +kernel
theorem dX2_pass_89 : decode cX2_pass 89 = .ok (.aload 6, 2) := by decide +kernel
theorem dX2_pass_91 : decode cX2_pass 91 = .ok (.aload_n 1, 1) := by decide +kernel
theorem dX2_pass_92 : decode cX2_pass 92 = .ok (.getfield 22, 3) := by decide +kernel
theorem dX2_pass_95 : decode cX2_pass 95 = .ok (.iload_n 2, 1) := by decide +kernel
theorem dX2_pass_96 : decode cX2_pass 96 = .ok (.iconst 1, 1) := by decide +kernel
theorem dX2_pass_97 : decode cX2_pass 97 = .ok (.bipush 10, 2) := by decide +kernel
theorem dX2_pass_99 : decode cX2_pass 99 = .ok (.iload_n 3, 1) := by decide +kernel
theorem dX2_pass_100 : decode cX2_pass 100 = .ok (.isub, 1) := by decide +kernel
theorem dX2_pass_101 : decode cX2_pass 101 = .ok (.invokestatic 56, 3) := by decide +kernel
theorem dX2_pass_104 : decode cX2_pass 104 = .ok (.aload 5, 2) := by decide +kernel
theorem dX2_pass_106 : decode cX2_pass 106 = .ok (.aload 6, 2) := by decide +kernel
theorem dX2_pass_108 : decode cX2_pass 108 = .ok (.aload_n 1, 1) := by decide +kernel
theorem dX2_pass_109 : decode cX2_pass 109 = .ok (.getfield 22, 3) := by decide +kernel
theorem dX2_pass_112 : decode cX2_pass 112 = .ok (.iload_n 2, 1) := by decide +kernel
theorem dX2_pass_113 : decode cX2_pass 113 = .ok (.iconst 0, 1) := by decide +kernel
theorem dX2_pass_114 : decode cX2_pass 114 = .ok (.iload_n 3, 1) := by decide +kernel
theorem dX2_pass_115 : decode cX2_pass 115 = .ok (.invokestatic 56, 3) := by decide +kernel
theorem dX2_pass_118 : decode cX2_pass 118 = .ok (.aload_n 0, 1) := by decide +kernel
theorem dX2_pass_119 : decode cX2_pass 119 = .ok (.dup, 1) := by decide +kernel
theorem dX2_pass_120 : decode cX2_pass 120 = .ok (.getfield 38, 3) := by decide +kernel
theorem dX2_pass_123 : decode cX2_pass 123 = .ok (.ldc2_w 60, 3) := by decide +kernel
theorem dX2_pass_126 : decode cX2_pass 126 = .ok (.lmul, 1) := by decide +kernel
theorem dX2_pass_127 : decode cX2_pass 127 = .ok (.putfield 38, 3) := by decide +kernel
theorem dX2_pass_130 : decode cX2_pass 130 = .ok (.aload 5, 2) := by decide +kernel
theorem dX2_pass_132 : decode cX2_pass 132 = .ok (.astore 8, 2) := by decide +kernel
theorem dX2_pass_134 : decode cX2_pass 134 = .ok (.aload 6, 2) := by decide +kernel
theorem dX2_pass_136 : decode cX2_pass 136 = .ok (.astore 5, 2) := by decide +kernel
theorem dX2_pass_138 : decode cX2_pass 138 = .ok (.aload 8, 2) := by decide +kernel
theorem dX2_pass_140 : decode cX2_pass 140 = .ok (.astore 6, 2) := by decide +kernel
theorem dX2_pass_142 : decode cX2_pass 142 = .ok (.iinc 7 1, 3) := by decide +kernel
theorem dX2_pass_145 : decode cX2_pass 145 = .ok (.goto (-105), 3) := by decide +kernel
theorem dX2_pass_148 : decode cX2_pass 148 = .ok (.aload_n 0, 1) := by decide +kernel
theorem dX2_pass_149 : decode cX2_pass 149 = .ok (.lconst 0, 1) := by decide +kernel
theorem dX2_pass_150 : decode cX2_pass 150 = .ok (.putfield 62, 3) := by decide +kernel
theorem dX2_pass_153 : decode cX2_pass 153 = .ok (.iconst 0, 1) := by decide +kernel
theorem dX2_pass_154 : decode cX2_pass 154 = .ok (.istore 7, 2) := by decide +kernel
theorem dX2_pass_156 : decode cX2_pass 156 = .ok (.iload 7, 2) := by decide +kernel
theorem dX2_pass_158 : decode cX2_pass 158 = .ok (.aload 5, 2) := by decide +kernel
theorem dX2_pass_160 : decode cX2_pass 160 = .ok (.arraylength, 1) := by decide +kernel
theorem dX2_pass_161 : decode cX2_pass 161 = .ok (.if_icmp .ge 23, 3) := by decide +kernel
theorem dX2_pass_164 : decode cX2_pass 164 = .ok (.aload_n 0, 1) := by decide +kernel
theorem dX2_pass_165 : decode cX2_pass 165 = .ok (.dup, 1) := by decide +kernel
theorem dX2_pass_166 : decode cX2_pass 166 = .ok (.getfield 62, 3) := by decide +kernel
theorem dX2_pass_169 : decode cX2_pass 169 = .ok (.aload 5, 2) := by decide +kernel
theorem dX2_pass_171 : decode cX2_pass 171 = .ok (.iload 7, 2) := by decide +kernel
theorem dX2_pass_173 : decode cX2_pass 173 = .ok (.laload, 1) := by decide +kernel
theorem dX2_pass_174 : decode cX2_pass 174 = .ok (.ladd, 1) := by decide +kernel
theorem dX2_pass_175 : decode cX2_pass 175 = .ok (.putfield 62, 3) := by decide +kernel
theorem dX2_pass_178 : decode cX2_pass 178 = .ok (.iinc 7 1, 3) := by decide +kernel
theorem dX2_pass_181 : decode cX2_pass 181 = .ok (.goto (-25), 3) := by decide +kernel
theorem dX2_pass_184 : decode cX2_pass 184 = .ok (.return_, 1) := by decide +kernel
set_option maxRecDepth 20000 in
theorem ggX2_spread_X6_of : GoodIn wsX2_spread wsX6_of := goodIn_r _ [9, 10, 14] (by decide +kernel) (by decide +kernel)
set_option maxRecDepth 20000 in
theorem gX2_spread_X6_of : GoodIn wsX2_spread (wsV RX2 28 RX6 yX6_of wsX6_of) := goodIn_app (goodIn_of _ (by decide +kernel)) ggX2_spread_X6_of
set_option maxRecDepth 20000 in
theorem ggX2_spread_X10_add : GoodIn wsX2_spread wsX10_add := goodIn_r _ [13] (by decide +kernel) (by decide +kernel)
set_option maxRecDepth 20000 in
theorem gX2_spread_X10_add_n34 : GoodIn wsX2_spread (wsX10_add) := ggX2_spread_X10_add
theorem dX2_spread_0 : decode cX2_spread 0 = .ok (.iload 4, 2) := by decide +kernel
theorem dX2_spread_2 : decode cX2_spread 2 = .ok (.ifCond .eq 12, 3) := by decide +kernel
theorem dX2_spread_5 : decode cX2_spread 5 = .ok (.aload_n 2, 1) := by decide +kernel
theorem dX2_spread_6 : decode cX2_spread 6 = .ok (.iload_n 3, 1) := by decide +kernel
theorem dX2_spread_7 : decode cX2_spread 7 = .ok (.iconst 0, 1) := by decide +kernel
theorem dX2_spread_8 : decode cX2_spread 8 = .ok (.invokevirtual 28, 3) := by decide +kernel
theorem dX2_spread_11 : decode cX2_spread 11 = .ok (.goto 4, 3) := by decide +kernel
theorem dX2_spread_14 : decode cX2_spread 14 = .ok (.iconst 0, 1) := by decide +kernel
theorem dX2_spread_15 : decode cX2_spread 15 = .ok (.aload_n 2, 1) := by decide +kernel
theorem dX2_spread_16 : decode cX2_spread 16 = .ok (.iload_n 3, 1) := by decide +kernel
theorem dX2_spread_17 : decode cX2_spread 17 = .ok (.iconst 1, 1) := by decide +kernel
theorem dX2_spread_18 : decode cX2_spread 18 = .ok (.invokevirtual 28, 3) := by decide +kernel
theorem dX2_spread_21 : decode cX2_spread 21 = .ok (.isub, 1) := by decide +kernel
theorem dX2_spread_22 : decode cX2_spread 22 = .ok (.istore 6, 2) := by decide +kernel
theorem dX2_spread_24 : decode cX2_spread 24 = .ok (.aload_n 2, 1) := by decide +kernel
theorem dX2_spread_25 : decode cX2_spread 25 = .ok (.iload_n 3, 1) := by decide +kernel
theorem dX2_spread_26 : decode cX2_spread 26 = .ok (.iconst 3, 1) := by decide +kernel
theorem dX2_spread_27 : decode cX2_spread 27 = .ok (.invokevirtual 28, 3) := by decide +kernel
theorem dX2_spread_30 : decode cX2_spread 30 = .ok (.istore 7, 2) := by decide +kernel
theorem dX2_spread_32 : decode cX2_spread 32 = .ok (.iconst 0, 1) := by decide +kernel
theorem dX2_spread_33 : decode cX2_spread 33 = .ok (.istore 8, 2) := by decide +kernel
theorem dX2_spread_35 : decode cX2_spread 35 = .ok (.iload 8, 2) := by decide +kernel
theorem dX2_spread_37 : decode cX2_spread 37 = .ok (.aload_n 0, 1) := by decide +kernel
theorem dX2_spread_38 : decode cX2_spread 38 = .ok (.arraylength, 1) := by decide +kernel
theorem dX2_spread_39 : decode cX2_spread 39 = .ok (.if_icmp .ge 48, 3) := by decide +kernel
theorem dX2_spread_42 : decode cX2_spread 42 = .ok (.aload_n 0, 1) := by decide +kernel
theorem dX2_spread_43 : decode cX2_spread 43 = .ok (.iload 8, 2) := by decide +kernel
theorem dX2_spread_45 : decode cX2_spread 45 = .ok (.laload, 1) := by decide +kernel
theorem dX2_spread_46 : decode cX2_spread 46 = .ok (.lconst 0, 1) := by decide +kernel
theorem dX2_spread_47 : decode cX2_spread 47 = .ok (.lcmp, 1) := by decide +kernel
theorem dX2_spread_48 : decode cX2_spread 48 = .ok (.ifCond .eq 33, 3) := by decide +kernel
theorem dX2_spread_51 : decode cX2_spread 51 = .ok (.iload 8, 2) := by decide +kernel
theorem dX2_spread_53 : decode cX2_spread 53 = .ok (.iload 6, 2) := by decide +kernel
theorem dX2_spread_55 : decode cX2_spread 55 = .ok (.iadd, 1) := by decide +kernel
theorem dX2_spread_56 : decode cX2_spread 56 = .ok (.ifCond .lt 25, 3) := by decide +kernel
theorem dX2_spread_59 : decode cX2_spread 59 = .ok (.aload_n 1, 1) := by decide +kernel
theorem dX2_spread_60 : decode cX2_spread 60 = .ok (.iload 8, 2) := by decide +kernel
theorem dX2_spread_62 : decode cX2_spread 62 = .ok (.iload 6, 2) := by decide +kernel
theorem dX2_spread_64 : decode cX2_spread 64 = .ok (.iadd, 1) := by decide +kernel
theorem dX2_spread_65 : decode cX2_spread 65 = .ok (.iload 7, 2) := by decide +kernel
theorem dX2_spread_67 : decode cX2_spread 67 = .ok (.invokestatic 65, 3) := by decide +kernel
theorem dX2_spread_70 : decode cX2_spread 70 = .ok (.aload_n 0, 1) := by decide +kernel
theorem dX2_spread_71 : decode cX2_spread 71 = .ok (.iload 8, 2) := by decide +kernel
theorem dX2_spread_73 : decode cX2_spread 73 = .ok (.laload, 1) := by decide +kernel
theorem dX2_spread_74 : decode cX2_spread 74 = .ok (.iload 5, 2) := by decide +kernel
theorem dX2_spread_76 : decode cX2_spread 76 = .ok (.i2l, 1) := by decide +kernel
theorem dX2_spread_77 : decode cX2_spread 77 = .ok (.lmul, 1) := by decide +kernel
theorem dX2_spread_78 : decode cX2_spread 78 = .ok (.invokestatic 34, 3) := by decide +kernel
theorem dX2_spread_81 : decode cX2_spread 81 = .ok (.iinc 8 1, 3) := by decide +kernel
theorem dX2_spread_84 : decode cX2_spread 84 = .ok (.goto (-49), 3) := by decide +kernel
theorem dX2_spread_87 : decode cX2_spread 87 = .ok (.return_, 1) := by decide +kernel
theorem dX3_init_0 : decode cX3_init 0 = .ok (.aload_n 0, 1) := by decide +kernel
theorem dX3_init_1 : decode cX3_init 1 = .ok (.invokespecial 3, 3) := by decide +kernel
theorem dX3_init_4 : decode cX3_init 4 = .ok (.aload_n 0, 1) := by decide +kernel
theorem dX3_init_5 : decode cX3_init 5 = .ok (.bipush 60, 2) := by decide +kernel
theorem dX3_init_7 : decode cX3_init 7 = .ok (.newarray .char, 2) := by decide +kernel
theorem dX3_init_9 : decode cX3_init 9 = .ok (.putfield 9, 3) := by decide +kernel
theorem dX3_init_12 : decode cX3_init 12 = .ok (.return_, 1) := by decide +kernel
theorem dX3_add_0 : decode cX3_add 0 = .ok (.aload_n 0, 1) := by decide +kernel
theorem dX3_add_1 : decode cX3_add 1 = .ok (.getfield 15, 3) := by decide +kernel
theorem dX3_add_4 : decode cX3_add 4 = .ok (.ifCond .lt 15, 3) := by decide +kernel
theorem dX3_add_7 : decode cX3_add 7 = .ok (.aload_n 0, 1) := by decide +kernel
theorem dX3_add_8 : decode cX3_add 8 = .ok (.getfield 15, 3) := by decide +kernel
theorem dX3_add_11 : decode cX3_add 11 = .ok (.aload_n 0, 1) := by decide +kernel
theorem dX3_add_12 : decode cX3_add 12 = .ok (.getfield 9, 3) := by decide +kernel
theorem dX3_add_15 : decode cX3_add 15 = .ok (.arraylength, 1) := by decide +kernel
theorem dX3_add_16 : decode cX3_add 16 = .ok (.if_icmp .lt 5, 3) := by decide +kernel
theorem dX3_add_19 : decode cX3_add 19 = .ok (.iconst 0, 1) := by decide +kernel
theorem dX3_add_20 : decode cX3_add 20 = .ok (.ireturn, 1) := by decide +kernel
theorem dX3_add_21 : decode cX3_add 21 = .ok (.aload_n 0, 1) := by decide +kernel
theorem dX3_add_22 : decode cX3_add 22 = .ok (.getfield 9, 3) := by decide +kernel
theorem dX3_add_25 : decode cX3_add 25 = .ok (.aload_n 0, 1) := by decide +kernel
theorem dX3_add_26 : decode cX3_add 26 = .ok (.getfield 15, 3) := by decide +kernel
theorem dX3_add_29 : decode cX3_add 29 = .ok (.iload_n 1, 1) := by decide +kernel
theorem dX3_add_30 : decode cX3_add 30 = .ok (.castore, 1) := by decide +kernel
theorem dX3_add_31 : decode cX3_add 31 = .ok (.aload_n 0, 1) := by decide +kernel
theorem dX3_add_32 : decode cX3_add 32 = .ok (.dup, 1) := by decide +kernel
theorem dX3_add_33 : decode cX3_add 33 = .ok (.getfield 15, 3) := by decide +kernel
theorem dX3_add_36 : decode cX3_add 36 = .ok (.iconst 1, 1) := by decide +kernel
theorem dX3_add_37 : decode cX3_add 37 = .ok (.iadd, 1) := by decide +kernel
theorem dX3_add_38 : decode cX3_add 38 = .ok (.putfield 15, 3) := by decide +kernel
theorem dX3_add_41 : decode cX3_add 41 = .ok (.iconst 1, 1) := by decide +kernel
theorem dX3_add_42 : decode cX3_add 42 = .ok (.ireturn, 1) := by decide +kernel
theorem dX3_signAt_0 : decode cX3_signAt 0 = .ok (.iload_n 1, 1) := by decide +kernel
theorem dX3_signAt_1 : decode cX3_signAt 1 = .ok (.ifCond .lt 21, 3) := by decide +kernel
theorem dX3_signAt_4 : decode cX3_signAt 4 = .ok (.iload_n 1, 1) := by decide +kernel
theorem dX3_signAt_5 : decode cX3_signAt 5 = .ok (.aload_n 0, 1) := by decide +kernel
theorem dX3_signAt_6 : decode cX3_signAt 6 = .ok (.getfield 9, 3) := by decide +kernel
theorem dX3_signAt_9 : decode cX3_signAt 9 = .ok (.arraylength, 1) := by decide +kernel
theorem dX3_signAt_10 : decode cX3_signAt 10 = .ok (.if_icmp .ge 12, 3) := by decide +kernel
theorem dX3_signAt_13 : decode cX3_signAt 13 = .ok (.aload_n 0, 1) := by decide +kernel
theorem dX3_signAt_14 : decode cX3_signAt 14 = .ok (.getfield 9, 3) := by decide +kernel
theorem dX3_signAt_17 : decode cX3_signAt 17 = .ok (.iload_n 1, 1) := by decide +kernel
theorem dX3_signAt_18 : decode cX3_signAt 18 = .ok (.caload, 1) := by decide +kernel
theorem dX3_signAt_19 : decode cX3_signAt 19 = .ok (.goto 5, 3) := by decide +kernel
theorem dX3_signAt_22 : decode cX3_signAt 22 = .ok (.bipush 32, 2) := by decide +kernel
theorem dX3_signAt_24 : decode cX3_signAt 24 = .ok (.ireturn, 1) := by decide +kernel
set_option maxRecDepth 20000 in
theorem ggX3_landAt_X3_signAt : GoodIn wsX3_landAt wsX3_signAt := goodIn_r _ [5, 6, 7, 8] (by decide +kernel) (by decide +kernel)
set_option maxRecDepth 20000 in
theorem gX3_landAt_X3_signAt : GoodIn wsX3_landAt (wsV RX3 19 RX3 yX3_signAt wsX3_signAt) := goodIn_app (goodIn_of _ (by decide +kernel)) ggX3_landAt_X3_signAt
theorem dX3_landAt_0 : decode cX3_landAt 0 = .ok (.aload_n 0, 1) := by decide +kernel
theorem dX3_landAt_1 : decode cX3_landAt 1 = .ok (.iload_n 1, 1) := by decide +kernel
theorem dX3_landAt_2 : decode cX3_landAt 2 = .ok (.invokevirtual 19, 3) := by decide +kernel
theorem dX3_landAt_5 : decode cX3_landAt 5 = .ok (.bipush 97, 2) := by decide +kernel
theorem dX3_landAt_7 : decode cX3_landAt 7 = .ok (.isub, 1) := by decide +kernel
theorem dX3_landAt_8 : decode cX3_landAt 8 = .ok (.ireturn, 1) := by decide +kernel
set_option maxRecDepth 20000 in
theorem ggX3_digitAt_X3_signAt : GoodIn wsX3_digitAt wsX3_signAt := goodIn_r _ [5, 6, 7, 8] (by decide +kernel) (by decide +kernel)
set_option maxRecDepth 20000 in
theorem gX3_digitAt_X3_signAt : GoodIn wsX3_digitAt (wsV RX3 19 RX3 yX3_signAt wsX3_signAt) := goodIn_app (goodIn_of _ (by decide +kernel)) ggX3_digitAt_X3_signAt
theorem dX3_digitAt_0 : decode cX3_digitAt 0 = .ok (.aload_n 0, 1) := by decide +kernel
theorem dX3_digitAt_1 : decode cX3_digitAt 1 = .ok (.iload_n 1, 1) := by decide +kernel
theorem dX3_digitAt_2 : decode cX3_digitAt 2 = .ok (.invokevirtual 19, 3) := by decide +kernel
theorem dX3_digitAt_5 : decode cX3_digitAt 5 = .ok (.bipush 48, 2) := by decide +kernel
theorem dX3_digitAt_7 : decode cX3_digitAt 7 = .ok (.isub, 1) := by decide +kernel
theorem dX3_digitAt_8 : decode cX3_digitAt 8 = .ok (.ireturn, 1) := by decide +kernel
set_option maxRecDepth 20000 in
theorem ggX3_isYears_X3_signAt : GoodIn wsX3_isYears wsX3_signAt := goodIn_r _ [5, 6, 7, 8] (by decide +kernel) (by decide +kernel)
set_option maxRecDepth 20000 in
theorem gX3_isYears_X3_signAt : GoodIn wsX3_isYears (wsV RX3 19 RX3 yX3_signAt wsX3_signAt) := goodIn_app (goodIn_of _ (by decide +kernel)) ggX3_isYears_X3_signAt
theorem dX3_isYears_0 : decode cX3_isYears 0 = .ok (.aload_n 0, 1) := by decide +kernel
theorem dX3_isYears_1 : decode cX3_isYears 1 = .ok (.iload_n 1, 1) := by decide +kernel
theorem dX3_isYears_2 : decode cX3_isYears 2 = .ok (.invokevirtual 19, 3) := by decide +kernel
theorem dX3_isYears_5 : decode cX3_isYears 5 = .ok (.bipush 46, 2) := by decide +kernel
theorem dX3_isYears_7 : decode cX3_isYears 7 = .ok (.if_icmp .eq 13, 3) := by decide +kernel
theorem dX3_isYears_10 : decode cX3_isYears 10 = .ok (.aload_n 0, 1) := by decide +kernel
theorem dX3_isYears_11 : decode cX3_isYears 11 = .ok (.iload_n 1, 1) := by decide +kernel
theorem dX3_isYears_12 : decode cX3_isYears 12 = .ok (.invokevirtual 19, 3) := by decide +kernel
theorem dX3_isYears_15 : decode cX3_isYears 15 = .ok (.bipush 58, 2) := by decide +kernel
theorem dX3_isYears_17 : decode cX3_isYears 17 = .ok (.if_icmp .ne 7, 3) := by decide +kernel
theorem dX3_isYears_20 : decode cX3_isYears 20 = .ok (.iconst 1, 1) := by decide +kernel
theorem dX3_isYears_21 : decode cX3_isYears 21 = .ok (.goto 4, 3) := by decide +kernel
theorem dX3_isYears_24 : decode cX3_isYears 24 = .ok (.iconst 0, 1) := by decide +kernel
theorem dX3_isYears_25 : decode cX3_isYears 25 = .ok (.ireturn, 1) := by decide +kernel
set_option maxRecDepth 20000 in
theorem ggX3_faultAmong_X3_digitAt : GoodIn wsX3_faultAmong wsX3_digitAt := goodIn_r _ [6, 7, 8, 9, 5, 10, 11, 23, 24] (by decide +kernel) (by decide +kernel)
set_option maxRecDepth 20000 in
theorem gX3_faultAmong_X3_digitAt : GoodIn wsX3_faultAmong (wsV RX3 23 RX3 yX3_digitAt wsX3_digitAt) := goodIn_app (goodIn_of _ (by decide +kernel)) ggX3_faultAmong_X3_digitAt
set_option maxRecDepth 20000 in
theorem ggX3_faultAmong_X10_within : GoodIn wsX3_faultAmong wsX10_within := goodIn_r _ [14] (by decide +kernel) (by decide +kernel)
set_option maxRecDepth 20000 in
theorem gX3_faultAmong_X10_within_n27 : GoodIn wsX3_faultAmong (wsX10_within) := ggX3_faultAmong_X10_within
set_option maxRecDepth 20000 in
theorem ggX3_faultAmong_X3_isYears : GoodIn wsX3_faultAmong wsX3_isYears := goodIn_r _ [18, 7, 8, 9, 5, 10, 11, 23, 24] (by decide +kernel) (by decide +kernel)
set_option maxRecDepth 20000 in
theorem gX3_faultAmong_X3_isYears : GoodIn wsX3_faultAmong (wsV RX3 31 RX3 yX3_isYears wsX3_isYears) := goodIn_app (goodIn_of _ (by decide +kernel)) ggX3_faultAmong_X3_isYears
set_option maxRecDepth 20000 in
theorem ggX3_faultAmong_X3_landAt : GoodIn wsX3_faultAmong wsX3_landAt := goodIn_r _ [22, 7, 8, 9, 5, 10, 11, 23, 24] (by decide +kernel) (by decide +kernel)
set_option maxRecDepth 20000 in
theorem gX3_faultAmong_X3_landAt : GoodIn wsX3_faultAmong (wsV RX3 35 RX3 yX3_landAt wsX3_landAt) := goodIn_app (goodIn_of _ (by decide +kernel)) ggX3_faultAmong_X3_landAt
theorem dX3_faultAmong_0 : decode cX3_faultAmong 0 = .ok (.iconst 0, 1) := by decide +kernel
theorem dX3_faultAmong_1 : decode cX3_faultAmong 1 = .ok (.istore_n 2, 1) := by decide +kernel
theorem dX3_faultAmong_2 : decode cX3_faultAmong 2 = .ok (.iconst 0, 1) := by decide +kernel
theorem dX3_faultAmong_3 : decode cX3_faultAmong 3 = .ok (.istore_n 3, 1) := by decide +kernel
theorem dX3_faultAmong_4 : decode cX3_faultAmong 4 = .ok (.iload_n 3, 1) := by decide +kernel
theorem dX3_faultAmong_5 : decode cX3_faultAmong 5 = .ok (.aload_n 0, 1) := by decide +kernel
theorem dX3_faultAmong_6 : decode cX3_faultAmong 6 = .ok (.getfield 15, 3) := by decide +kernel
theorem dX3_faultAmong_9 : decode cX3_faultAmong 9 = .ok (.if_icmp .ge 68, 3) := by decide +kernel
theorem dX3_faultAmong_12 : decode cX3_faultAmong 12 = .ok (.iload_n 2, 1) := by decide +kernel
theorem dX3_faultAmong_13 : decode cX3_faultAmong 13 = .ok (.iconst 2, 1) := by decide +kernel
theorem dX3_faultAmong_14 : decode cX3_faultAmong 14 = .ok (.if_icmp .ne 24, 3) := by decide +kernel
theorem dX3_faultAmong_17 : decode cX3_faultAmong 17 = .ok (.aload_n 0, 1) := by decide +kernel
theorem dX3_faultAmong_18 : decode cX3_faultAmong 18 = .ok (.iload_n 3, 1) := by decide +kernel
theorem dX3_faultAmong_19 : decode cX3_faultAmong 19 = .ok (.invokevirtual 23, 3) := by decide +kernel
theorem dX3_faultAmong_22 : decode cX3_faultAmong 22 = .ok (.iconst 1, 1) := by decide +kernel
theorem dX3_faultAmong_23 : decode cX3_faultAmong 23 = .ok (.bipush 9, 2) := by decide +kernel
theorem dX3_faultAmong_25 : decode cX3_faultAmong 25 = .ok (.invokestatic 27, 3) := by decide +kernel
theorem dX3_faultAmong_28 : decode cX3_faultAmong 28 = .ok (.ifCond .ne 5, 3) := by decide +kernel
theorem dX3_faultAmong_31 : decode cX3_faultAmong 31 = .ok (.iload_n 3, 1) := by decide +kernel
theorem dX3_faultAmong_32 : decode cX3_faultAmong 32 = .ok (.ireturn, 1) := by decide +kernel
theorem dX3_faultAmong_33 : decode cX3_faultAmong 33 = .ok (.iconst 0, 1) := by decide +kernel
theorem dX3_faultAmong_34 : decode cX3_faultAmong 34 = .ok (.istore_n 2, 1) := by decide +kernel
theorem dX3_faultAmong_35 : decode cX3_faultAmong 35 = .ok (.goto 36, 3) := by decide +kernel
theorem dX3_faultAmong_38 : decode cX3_faultAmong 38 = .ok (.iload_n 2, 1) := by decide +kernel
theorem dX3_faultAmong_39 : decode cX3_faultAmong 39 = .ok (.iconst 1, 1) := by decide +kernel
theorem dX3_faultAmong_40 : decode cX3_faultAmong 40 = .ok (.if_icmp .eq 11, 3) := by decide +kernel
theorem dX3_faultAmong_43 : decode cX3_faultAmong 43 = .ok (.aload_n 0, 1) := by decide +kernel
theorem dX3_faultAmong_44 : decode cX3_faultAmong 44 = .ok (.iload_n 3, 1) := by decide +kernel
theorem dX3_faultAmong_45 : decode cX3_faultAmong 45 = .ok (.invokevirtual 31, 3) := by decide +kernel
theorem dX3_faultAmong_48 : decode cX3_faultAmong 48 = .ok (.ifCond .ne 23, 3) := by decide +kernel
theorem dX3_faultAmong_51 : decode cX3_faultAmong 51 = .ok (.aload_n 0, 1) := by decide +kernel
theorem dX3_faultAmong_52 : decode cX3_faultAmong 52 = .ok (.iload_n 3, 1) := by decide +kernel
theorem dX3_faultAmong_53 : decode cX3_faultAmong 53 = .ok (.invokevirtual 35, 3) := by decide +kernel
theorem dX3_faultAmong_56 : decode cX3_faultAmong 56 = .ok (.iconst 0, 1) := by decide +kernel
theorem dX3_faultAmong_57 : decode cX3_faultAmong 57 = .ok (.iload_n 1, 1) := by decide +kernel
theorem dX3_faultAmong_58 : decode cX3_faultAmong 58 = .ok (.iconst 1, 1) := by decide +kernel
theorem dX3_faultAmong_59 : decode cX3_faultAmong 59 = .ok (.isub, 1) := by decide +kernel
theorem dX3_faultAmong_60 : decode cX3_faultAmong 60 = .ok (.invokestatic 27, 3) := by decide +kernel
theorem dX3_faultAmong_63 : decode cX3_faultAmong 63 = .ok (.ifCond .ne 5, 3) := by decide +kernel
theorem dX3_faultAmong_66 : decode cX3_faultAmong 66 = .ok (.iload_n 3, 1) := by decide +kernel
theorem dX3_faultAmong_67 : decode cX3_faultAmong 67 = .ok (.ireturn, 1) := by decide +kernel
theorem dX3_faultAmong_68 : decode cX3_faultAmong 68 = .ok (.iinc 2 1, 3) := by decide +kernel
theorem dX3_faultAmong_71 : decode cX3_faultAmong 71 = .ok (.iinc 3 1, 3) := by decide +kernel
theorem dX3_faultAmong_74 : decode cX3_faultAmong 74 = .ok (.goto (-70), 3) := by decide +kernel
theorem dX3_faultAmong_77 : decode cX3_faultAmong 77 = .ok (.iload_n 2, 1) := by decide +kernel
theorem dX3_faultAmong_78 : decode cX3_faultAmong 78 = .ok (.ifCond .ne 8, 3) := by decide +kernel
theorem dX3_faultAmong_81 : decode cX3_faultAmong 81 = .ok (.bipush (-6), 2) := by decide +kernel
theorem dX3_faultAmong_83 : decode cX3_faultAmong 83 = .ok (.goto 7, 3) := by decide +kernel
theorem dX3_faultAmong_86 : decode cX3_faultAmong 86 = .ok (.aload_n 0, 1) := by decide +kernel
theorem dX3_faultAmong_87 : decode cX3_faultAmong 87 = .ok (.getfield 15, 3) := by decide +kernel
theorem dX3_faultAmong_90 : decode cX3_faultAmong 90 = .ok (.ireturn, 1) := by decide +kernel
theorem dX4_init_0 : decode cX4_init 0 = .ok (.aload_n 0, 1) := by decide +kernel
theorem dX4_init_1 : decode cX4_init 1 = .ok (.invokespecial 3, 3) := by decide +kernel
theorem dX4_init_4 : decode cX4_init 4 = .ok (.aload_n 0, 1) := by decide +kernel
theorem dX4_init_5 : decode cX4_init 5 = .ok (.bipush 6, 2) := by decide +kernel
theorem dX4_init_7 : decode cX4_init 7 = .ok (.putfield 9, 3) := by decide +kernel
theorem dX4_init_10 : decode cX4_init 10 = .ok (.aload_n 0, 1) := by decide +kernel
theorem dX4_init_11 : decode cX4_init 11 = .ok (.iconst 2, 1) := by decide +kernel
theorem dX4_init_12 : decode cX4_init 12 = .ok (.putfield 15, 3) := by decide +kernel
theorem dX4_init_15 : decode cX4_init 15 = .ok (.aload_n 0, 1) := by decide +kernel
theorem dX4_init_16 : decode cX4_init 16 = .ok (.iconst 1, 1) := by decide +kernel
theorem dX4_init_17 : decode cX4_init 17 = .ok (.putfield 18, 3) := by decide +kernel
theorem dX4_init_20 : decode cX4_init 20 = .ok (.aload_n 0, 1) := by decide +kernel
theorem dX4_init_21 : decode cX4_init 21 = .ok (.iconst 0, 1) := by decide +kernel
theorem dX4_init_22 : decode cX4_init 22 = .ok (.putfield 21, 3) := by decide +kernel
theorem dX4_init_25 : decode cX4_init 25 = .ok (.aload_n 0, 1) := by decide +kernel
theorem dX4_init_26 : decode cX4_init 26 = .ok (.iconst 0, 1) := by decide +kernel
theorem dX4_init_27 : decode cX4_init 27 = .ok (.putfield 24, 3) := by decide +kernel
theorem dX4_init_30 : decode cX4_init 30 = .ok (.aload_n 0, 1) := by decide +kernel
theorem dX4_init_31 : decode cX4_init 31 = .ok (.iconst 1, 1) := by decide +kernel
theorem dX4_init_32 : decode cX4_init 32 = .ok (.putfield 27, 3) := by decide +kernel
theorem dX4_init_35 : decode cX4_init 35 = .ok (.aload_n 0, 1) := by decide +kernel
theorem dX4_init_36 : decode cX4_init 36 = .ok (.iconst 1, 1) := by decide +kernel
theorem dX4_init_37 : decode cX4_init 37 = .ok (.putfield 30, 3) := by decide +kernel
theorem dX4_init_40 : decode cX4_init 40 = .ok (.return_, 1) := by decide +kernel
theorem dX4_takeFrom_0 : decode cX4_takeFrom 0 = .ok (.aload_n 0, 1) := by decide +kernel
theorem dX4_takeFrom_1 : decode cX4_takeFrom 1 = .ok (.aload_n 1, 1) := by decide +kernel
theorem dX4_takeFrom_2 : decode cX4_takeFrom 2 = .ok (.getfield 9, 3) := by decide +kernel
theorem dX4_takeFrom_5 : decode cX4_takeFrom 5 = .ok (.putfield 9, 3) := by decide +kernel
theorem dX4_takeFrom_8 : decode cX4_takeFrom 8 = .ok (.aload_n 0, 1) := by decide +kernel
theorem dX4_takeFrom_9 : decode cX4_takeFrom 9 = .ok (.aload_n 1, 1) := by decide +kernel
theorem dX4_takeFrom_10 : decode cX4_takeFrom 10 = .ok (.getfield 15, 3) := by decide +kernel
theorem dX4_takeFrom_13 : decode cX4_takeFrom 13 = .ok (.putfield 15, 3) := by decide +kernel
theorem dX4_takeFrom_16 : decode cX4_takeFrom 16 = .ok (.aload_n 0, 1) := by decide +kernel
theorem dX4_takeFrom_17 : decode cX4_takeFrom 17 = .ok (.aload_n 1, 1) := by decide +kernel
theorem dX4_takeFrom_18 : decode cX4_takeFrom 18 = .ok (.getfield 18, 3) := by decide +kernel
theorem dX4_takeFrom_21 : decode cX4_takeFrom 21 = .ok (.putfield 18, 3) := by decide +kernel
theorem dX4_takeFrom_24 : decode cX4_takeFrom 24 = .ok (.aload_n 0, 1) := by decide +kernel
theorem dX4_takeFrom_25 : decode cX4_takeFrom 25 = .ok (.aload_n 1, 1) := by decide +kernel
theorem dX4_takeFrom_26 : decode cX4_takeFrom 26 = .ok (.getfield 21, 3) := by decide +kernel
theorem dX4_takeFrom_29 : decode cX4_takeFrom 29 = .ok (.putfield 21, 3) := by decide +kernel
theorem dX4_takeFrom_32 : decode cX4_takeFrom 32 = .ok (.aload_n 0, 1) := by decide +kernel
theorem dX4_takeFrom_33 : decode cX4_takeFrom 33 = .ok (.aload_n 1, 1) := by decide +kernel
theorem dX4_takeFrom_34 : decode cX4_takeFrom 34 = .ok (.getfield 24, 3) := by decide +kernel
theorem dX4_takeFrom_37 : decode cX4_takeFrom 37 = .ok (.putfield 24, 3) := by decide +kernel
theorem dX4_takeFrom_40 : decode cX4_takeFrom 40 = .ok (.aload_n 0, 1) := by decide +kernel
theorem dX4_takeFrom_41 : decode cX4_takeFrom 41 = .ok (.aload_n 1, 1) := by decide +kernel
theorem dX4_takeFrom_42 : decode cX4_takeFrom 42 = .ok (.getfield 27, 3) := by decide +kernel
theorem dX4_takeFrom_45 : decode cX4_takeFrom 45 = .ok (.putfield 27, 3) := by decide +kernel
theorem dX4_takeFrom_48 : decode cX4_takeFrom 48 = .ok (.aload_n 0, 1) := by decide +kernel
theorem dX4_takeFrom_49 : decode cX4_takeFrom 49 = .ok (.aload_n 1, 1) := by decide +kernel
theorem dX4_takeFrom_50 : decode cX4_takeFrom 50 = .ok (.getfield 30, 3) := by decide +kernel
theorem dX4_takeFrom_53 : decode cX4_takeFrom 53 = .ok (.putfield 30, 3) := by decide +kernel
theorem dX4_takeFrom_56 : decode cX4_takeFrom 56 = .ok (.return_, 1) := by decide +kernel
theorem dX4_rule_0 : decode cX4_rule 0 = .ok (.iload_n 1, 1) := by decide +kernel
theorem dX4_rule_1 : decode cX4_rule 1 = .ok (.tableswitch 51 0 3 #[31, 36, 41, 46], 31) := by decide +kernel
theorem dX4_rule_32 : decode cX4_rule 32 = .ok (.aload_n 0, 1) := by decide +kernel
theorem dX4_rule_33 : decode cX4_rule 33 = .ok (.getfield 18, 3) := by decide +kernel
theorem dX4_rule_36 : decode cX4_rule 36 = .ok (.ireturn, 1) := by decide +kernel
theorem dX4_rule_37 : decode cX4_rule 37 = .ok (.aload_n 0, 1) := by decide +kernel
theorem dX4_rule_38 : decode cX4_rule 38 = .ok (.getfield 21, 3) := by decide +kernel
theorem dX4_rule_41 : decode cX4_rule 41 = .ok (.ireturn, 1) := by decide +kernel
theorem dX4_rule_42 : decode cX4_rule 42 = .ok (.aload_n 0, 1) := by decide +kernel
theorem dX4_rule_43 : decode cX4_rule 43 = .ok (.getfield 24, 3) := by decide +kernel
theorem dX4_rule_46 : decode cX4_rule 46 = .ok (.ireturn, 1) := by decide +kernel
theorem dX4_rule_47 : decode cX4_rule 47 = .ok (.aload_n 0, 1) := by decide +kernel
theorem dX4_rule_48 : decode cX4_rule 48 = .ok (.getfield 27, 3) := by decide +kernel
theorem dX4_rule_51 : decode cX4_rule 51 = .ok (.ireturn, 1) := by decide +kernel
theorem dX4_rule_52 : decode cX4_rule 52 = .ok (.aload_n 0, 1) := by decide +kernel
theorem dX4_rule_53 : decode cX4_rule 53 = .ok (.getfield 30, 3) := by decide +kernel
theorem dX4_rule_56 : decode cX4_rule 56 = .ok (.ireturn, 1) := by decide +kernel
theorem dX4_putRule_0 : decode cX4_putRule 0 = .ok (.iload_n 1, 1) := by decide +kernel
theorem dX4_putRule_1 : decode cX4_putRule 1 = .ok (.tableswitch 63 0 3 #[31, 39, 47, 55], 31) := by decide +kernel
theorem dX4_putRule_32 : decode cX4_putRule 32 = .ok (.aload_n 0, 1) := by decide +kernel
theorem dX4_putRule_33 : decode cX4_putRule 33 = .ok (.iload_n 2, 1) := by decide +kernel
theorem dX4_putRule_34 : decode cX4_putRule 34 = .ok (.putfield 18, 3) := by decide +kernel
theorem dX4_putRule_37 : decode cX4_putRule 37 = .ok (.goto 32, 3) := by decide +kernel
theorem dX4_putRule_40 : decode cX4_putRule 40 = .ok (.aload_n 0, 1) := by decide +kernel
theorem dX4_putRule_41 : decode cX4_putRule 41 = .ok (.iload_n 2, 1) := by decide +kernel
theorem dX4_putRule_42 : decode cX4_putRule 42 = .ok (.putfield 21, 3) := by decide +kernel
theorem dX4_putRule_45 : decode cX4_putRule 45 = .ok (.goto 24, 3) := by decide +kernel
theorem dX4_putRule_48 : decode cX4_putRule 48 = .ok (.aload_n 0, 1) := by decide +kernel
theorem dX4_putRule_49 : decode cX4_putRule 49 = .ok (.iload_n 2, 1) := by decide +kernel
theorem dX4_putRule_50 : decode cX4_putRule 50 = .ok (.putfield 24, 3) := by decide +kernel
theorem dX4_putRule_53 : decode cX4_putRule 53 = .ok (.goto 16, 3) := by decide +kernel
theorem dX4_putRule_56 : decode cX4_putRule 56 = .ok (.aload_n 0, 1) := by decide +kernel
theorem dX4_putRule_57 : decode cX4_putRule 57 = .ok (.iload_n 2, 1) := by decide +kernel
theorem dX4_putRule_58 : decode cX4_putRule 58 = .ok (.putfield 27, 3) := by decide +kernel
theorem dX4_putRule_61 : decode cX4_putRule 61 = .ok (.goto 8, 3) := by decide +kernel
theorem dX4_putRule_64 : decode cX4_putRule 64 = .ok (.aload_n 0, 1) := by decide +kernel
theorem dX4_putRule_65 : decode cX4_putRule 65 = .ok (.iload_n 2, 1) := by decide +kernel
theorem dX4_putRule_66 : decode cX4_putRule 66 = .ok (.putfield 30, 3) := by decide +kernel
theorem dX4_putRule_69 : decode cX4_putRule 69 = .ok (.return_, 1) := by decide +kernel
theorem dX4_turn_0 : decode cX4_turn 0 = .ok (.iconst 2, 1) := by decide +kernel
theorem dX4_turn_1 : decode cX4_turn 1 = .ok (.aload_n 0, 1) := by decide +kernel
theorem dX4_turn_2 : decode cX4_turn 2 = .ok (.getfield 9, 3) := by decide +kernel
theorem dX4_turn_5 : decode cX4_turn 5 = .ok (.aload_n 0, 1) := by decide +kernel
theorem dX4_turn_6 : decode cX4_turn 6 = .ok (.getfield 15, 3) := by decide +kernel
theorem dX4_turn_9 : decode cX4_turn 9 = .ok (.isub, 1) := by decide +kernel
theorem dX4_turn_10 : decode cX4_turn 10 = .ok (.imul, 1) := by decide +kernel
theorem dX4_turn_11 : decode cX4_turn 11 = .ok (.ireturn, 1) := by decide +kernel
theorem dX4_firstAt_0 : decode cX4_firstAt 0 = .ok (.aload_n 0, 1) := by decide +kernel
theorem dX4_firstAt_1 : decode cX4_firstAt 1 = .ok (.getfield 9, 3) := by decide +kernel
theorem dX4_firstAt_4 : decode cX4_firstAt 4 = .ok (.aload_n 0, 1) := by decide +kernel
theorem dX4_firstAt_5 : decode cX4_firstAt 5 = .ok (.getfield 15, 3) := by decide +kernel
theorem dX4_firstAt_8 : decode cX4_firstAt 8 = .ok (.isub, 1) := by decide +kernel
theorem dX4_firstAt_9 : decode cX4_firstAt 9 = .ok (.istore_n 2, 1) := by decide +kernel
theorem dX4_firstAt_10 : decode cX4_firstAt 10 = .ok (.aload_n 0, 1) := by decide +kernel
theorem dX4_firstAt_11 : decode cX4_firstAt 11 = .ok (.getfield 18, 3) := by decide +kernel
theorem dX4_firstAt_14 : decode cX4_firstAt 14 = .ok (.iconst 1, 1) := by decide +kernel
theorem dX4_firstAt_15 : decode cX4_firstAt 15 = .ok (.if_icmp .lt 8, 3) := by decide +kernel
theorem dX4_firstAt_18 : decode cX4_firstAt 18 = .ok (.iload_n 2, 1) := by decide +kernel
theorem dX4_firstAt_19 : decode cX4_firstAt 19 = .ok (.iconst 1, 1) := by decide +kernel
theorem dX4_firstAt_20 : decode cX4_firstAt 20 = .ok (.if_icmp .ge 5, 3) := by decide +kernel
theorem dX4_firstAt_23 : decode cX4_firstAt 23 = .ok (.iconst 0, 1) := by decide +kernel
theorem dX4_firstAt_24 : decode cX4_firstAt 24 = .ok (.ireturn, 1) := by decide +kernel
theorem dX4_firstAt_25 : decode cX4_firstAt 25 = .ok (.iload_n 1, 1) := by decide +kernel
theorem dX4_firstAt_26 : decode cX4_firstAt 26 = .ok (.aload_n 0, 1) := by decide +kernel
theorem dX4_firstAt_27 : decode cX4_firstAt 27 = .ok (.getfield 21, 3) := by decide +kernel
theorem dX4_firstAt_30 : decode cX4_firstAt 30 = .ok (.iadd, 1) := by decide +kernel
theorem dX4_firstAt_31 : decode cX4_firstAt 31 = .ok (.aload_n 0, 1) := by decide +kernel
