theorem y_in {big : List Cond} (ws : List Cond) (ps : List Nat) (hp : ws = ps.filterMap (fun i => big[i]?)) : ∀ w ∈ ws, w ∈ big := by
  intro w hw
  rw [hp] at hw
  obtain ⟨i, -, hi⟩ := List.mem_filterMap.mp hw
  first | exact List.mem_of_getElem? hi | exact List.getElem?_mem hi
set_option maxRecDepth 20000 in
theorem y_wsL_law_r1 : ∀ w ∈ wsL_law_r1, w ∈ lw_tbl := y_in _ [75, 76, 62, 747, 748, 69, 77, 78, 79, 80, 81, 82, 83, 84, 63, 233, 234, 235, 104, 105, 65, 236, 176, 177] (by decide +kernel)
set_option maxRecDepth 20000 in
theorem y_wsL_law_r2 : ∀ w ∈ wsL_law_r2, w ∈ lw_tbl := y_in _ [66, 237, 195, 196, 67, 238, 218, 219, 68, 239, 103, 240, 241, 242, 243, 244, 85, 86, 87, 88, 89, 94, 96, 91] (by decide +kernel)
set_option maxRecDepth 20000 in
theorem y_wsL_law_r3 : ∀ w ∈ wsL_law_r3, w ∈ lw_tbl := y_in _ [92, 64, 93, 107, 108, 109, 110, 114, 117, 122, 124, 127, 130, 133, 137, 141, 143, 145, 147, 179, 180, 181, 182, 184] (by decide +kernel)
set_option maxRecDepth 20000 in
theorem y_wsL_law_r4 : ∀ w ∈ wsL_law_r4, w ∈ lw_tbl := y_in _ [186, 187, 198, 199, 200, 201, 203, 205, 207, 221, 222, 223, 232, 224, 225, 749, 750, 751, 752, 753, 755, 757, 758, 759] (by decide +kernel)
set_option maxRecDepth 20000 in
theorem y_wsL_law_r5 : ∀ w ∈ wsL_law_r5, w ∈ lw_tbl := y_in _ [761, 762, 763, 764, 767, 769, 773, 775, 778, 779, 780, 781, 782, 783, 785, 270, 271, 272, 273, 274, 275, 276, 277, 278] (by decide +kernel)
set_option maxRecDepth 20000 in
theorem y_wsL_law_r6 : ∀ w ∈ wsL_law_r6, w ∈ lw_tbl := y_in _ [280, 0, 281, 282, 283, 284, 285, 286, 853, 854, 855, 856, 857, 858, 859, 860, 861, 862, 863, 864, 866, 17, 867, 768] (by decide +kernel)
set_option maxRecDepth 20000 in
theorem y_wsL_law_r7 : ∀ w ∈ wsL_law_r7, w ∈ lw_tbl := y_in _ [868, 870, 18, 871, 287, 288, 289, 290, 95, 291, 293, 1, 294, 295, 297, 2, 298, 299, 300, 301, 302, 303, 304, 305] (by decide +kernel)
set_option maxRecDepth 20000 in
theorem y_wsL_law_r8 : ∀ w ∈ wsL_law_r8, w ∈ lw_tbl := y_in _ [306, 307, 872, 873, 874, 875, 876, 878, 19, 879, 880, 882, 20, 883, 765, 308, 309, 310, 311, 884, 885, 886, 887, 312] (by decide +kernel)
set_option maxRecDepth 20000 in
theorem y_wsL_law_r9 : ∀ w ∈ wsL_law_r9, w ∈ lw_tbl := y_in _ [313, 314, 315, 97, 888, 889, 890, 891, 316, 317, 318, 319, 324, 326, 325, 70, 320, 321, 322, 323, 892, 893, 894, 895] (by decide +kernel)
set_option maxRecDepth 20000 in
theorem y_wsL_law_r10 : ∀ w ∈ wsL_law_r10, w ∈ lw_tbl := y_in _ [896, 898, 21, 899, 327, 328, 329, 330, 900, 901, 902, 903, 331, 332, 333, 334, 904, 905, 906, 907, 908, 909, 910, 911] (by decide +kernel)
set_option maxRecDepth 20000 in
theorem y_wsL_law_r11 : ∀ w ∈ wsL_law_r11, w ∈ lw_tbl := y_in _ [335, 336, 337, 338, 912, 913, 914, 915, 339, 340, 341, 342, 343, 344, 345, 346, 347, 348, 71, 349, 119, 350, 351, 352] (by decide +kernel)
set_option maxRecDepth 20000 in
theorem y_wsL_law_r12 : ∀ w ∈ wsL_law_r12, w ∈ lw_tbl := y_in _ [353, 354, 355, 356, 357, 358, 359, 361, 3, 362, 363, 364, 365, 366, 367, 368, 369, 370, 371, 372, 373, 374, 375, 376] (by decide +kernel)
set_option maxRecDepth 20000 in
theorem y_wsL_law_r13 : ∀ w ∈ wsL_law_r13, w ∈ lw_tbl := y_in _ [377, 378, 379, 380, 381, 382, 383, 384, 385, 386, 387, 388, 389, 390, 391, 72, 392, 393, 394, 395, 396, 397, 398, 399] (by decide +kernel)
set_option maxRecDepth 20000 in
theorem y_wsL_law_r14 : ∀ w ∈ wsL_law_r14, w ∈ lw_tbl := y_in _ [401, 4, 402, 403, 405, 5, 406, 407, 409, 6, 410, 112, 115, 411, 412, 413, 414, 416, 7, 417, 418, 420, 8, 421] (by decide +kernel)
set_option maxRecDepth 20000 in
theorem y_wsL_law_r15 : ∀ w ∈ wsL_law_r15, w ∈ lw_tbl := y_in _ [131, 422, 424, 9, 425, 123, 125, 128, 426, 427, 428, 916, 917, 918, 919, 920, 922, 22, 923, 770, 771, 772, 774, 776] (by decide +kernel)
set_option maxRecDepth 20000 in
theorem y_wsL_law_r16 : ∀ w ∈ wsL_law_r16, w ∈ lw_tbl := y_in _ [777, 924, 926, 23, 927, 928, 930, 24, 931, 932, 934, 25, 935, 936, 938, 26, 939, 940, 942, 27, 943, 944, 946, 28] (by decide +kernel)
set_option maxRecDepth 20000 in
theorem y_wsL_law_r17 : ∀ w ∈ wsL_law_r17, w ∈ lw_tbl := y_in _ [947, 948, 949, 950, 951, 953, 29, 954, 955, 956, 957, 431, 432, 433, 434, 185, 121, 435, 436, 437, 438, 439, 958, 959] (by decide +kernel)
set_option maxRecDepth 20000 in
theorem y_wsL_law_r18 : ∀ w ∈ wsL_law_r18, w ∈ lw_tbl := y_in _ [960, 961, 754, 756, 760, 440, 441, 442, 443, 444, 445, 446, 447, 448, 962, 963, 964, 965, 970, 966, 968, 30, 969, 971] (by decide +kernel)
set_option maxRecDepth 20000 in
theorem y_wsL_law_r19 : ∀ w ∈ wsL_law_r19, w ∈ lw_tbl := y_in _ [973, 31, 974, 975, 977, 32, 978, 979, 980, 981, 982, 983, 984, 985, 986, 987, 449, 450, 451, 452, 144, 126, 459, 453] (by decide +kernel)
set_option maxRecDepth 20000 in
theorem y_wsL_law_r20 : ∀ w ∈ wsL_law_r20, w ∈ lw_tbl := y_in _ [454, 455, 456, 460, 461, 462, 463, 464, 465, 466, 467, 468, 469, 470, 471, 472, 473, 988, 989, 990, 991, 992, 994, 33] (by decide +kernel)
set_option maxRecDepth 20000 in
theorem y_wsL_law_r21 : ∀ w ∈ wsL_law_r21, w ∈ lw_tbl := y_in _ [995, 996, 998, 34, 999, 1000, 1002, 35, 1003, 1004, 1006, 36, 1007, 474, 475, 476, 477, 116, 478, 1008, 1009, 1010, 1011, 1012] (by decide +kernel)
set_option maxRecDepth 20000 in
theorem y_wsL_law_r22 : ∀ w ∈ wsL_law_r22, w ∈ lw_tbl := y_in _ [1014, 37, 1015, 479, 480, 481, 482, 146, 136, 483, 484, 485, 486, 487, 488, 489, 490, 1016, 1017, 1018, 1019, 1020, 1022, 38] (by decide +kernel)
set_option maxRecDepth 20000 in
theorem y_wsL_law_r23 : ∀ w ∈ wsL_law_r23, w ∈ lw_tbl := y_in _ [1023, 1024, 1026, 39, 1027, 491, 492, 493, 494, 495, 496, 497, 498, 1028, 1029, 1030, 1031, 1032, 1034, 40, 1035, 1036, 1038, 41] (by decide +kernel)
set_option maxRecDepth 20000 in
theorem y_wsL_law_r24 : ∀ w ∈ wsL_law_r24, w ∈ lw_tbl := y_in _ [1039, 499, 500, 501, 502, 503, 1040, 1041, 1042, 1043, 504, 505, 506, 507, 148, 1044, 1045, 1046, 1047, 1048, 1049, 1051, 42, 1052] (by decide +kernel)
set_option maxRecDepth 20000 in
theorem y_wsL_law_r25 : ∀ w ∈ wsL_law_r25, w ∈ lw_tbl := y_in _ [508, 509, 510, 511, 1053, 1054, 1055, 1056, 512, 513, 514, 515, 516, 517, 518, 519, 1057, 1058, 1059, 1060, 520, 521, 522, 523] (by decide +kernel)
set_option maxRecDepth 20000 in
theorem y_wsL_law_r26 : ∀ w ∈ wsL_law_r26, w ∈ lw_tbl := y_in _ [1061, 1062, 1063, 1064, 524, 525, 526, 527, 528, 1065, 1066, 1067, 1068, 1069, 1071, 43, 1072, 529, 530, 531, 532, 533, 1073, 1074] (by decide +kernel)
set_option maxRecDepth 20000 in
theorem y_wsL_law_r27 : ∀ w ∈ wsL_law_r27, w ∈ lw_tbl := y_in _ [1075, 1076, 534, 535, 536, 537, 202, 538, 539, 540, 541, 542, 544, 10, 545, 139, 111, 120, 135, 546, 548, 11, 549, 550] (by decide +kernel)
set_option maxRecDepth 20000 in
theorem y_wsL_law_r28 : ∀ w ∈ wsL_law_r28, w ∈ lw_tbl := y_in _ [551, 552, 553, 554, 555, 556, 557, 558, 1077, 1078, 1079, 1080, 1081, 1083, 44, 1084, 1085, 1087, 45, 1088, 1089, 1091, 46, 1092] (by decide +kernel)
set_option maxRecDepth 20000 in
theorem y_wsL_law_r29 : ∀ w ∈ wsL_law_r29, w ∈ lw_tbl := y_in _ [559, 560, 561, 562, 208, 563, 565, 12, 566, 567, 568, 569, 570, 1093, 1094, 1095, 1096, 571, 572, 573, 574, 206, 204, 575] (by decide +kernel)
set_option maxRecDepth 20000 in
theorem y_wsL_law_r30 : ∀ w ∈ wsL_law_r30, w ∈ lw_tbl := y_in _ [577, 13, 578, 1097, 1098, 1099, 1100, 766, 579, 580, 581, 582, 132, 1101, 1102, 1103, 1104, 583, 584, 585, 586, 587, 588, 73] (by decide +kernel)
set_option maxRecDepth 20000 in
theorem y_wsL_law_r31 : ∀ w ∈ wsL_law_r31, w ∈ lw_tbl := y_in _ [589, 590, 591, 592, 593, 594, 595, 1105, 1106, 1107, 1108, 1109, 1110, 1111, 1112, 1113, 1115, 47, 1116, 1117, 1118, 1119, 596, 597] (by decide +kernel)
set_option maxRecDepth 20000 in
theorem y_wsL_law_r32 : ∀ w ∈ wsL_law_r32, w ∈ lw_tbl := y_in _ [598, 599, 600, 601, 602, 603, 1120, 1121, 1122, 1123, 604, 605, 606, 607, 1124, 1125, 1126, 1127, 608, 609, 610, 611, 612, 614] (by decide +kernel)
set_option maxRecDepth 20000 in
theorem y_wsL_law_r33 : ∀ w ∈ wsL_law_r33, w ∈ lw_tbl := y_in _ [14, 615, 616, 618, 15, 619, 129, 1128, 1129, 1130, 1131, 1132, 1134, 48, 1135, 1136, 1138, 49, 1139, 620, 621, 622, 623, 1140] (by decide +kernel)
set_option maxRecDepth 20000 in
theorem y_wsL_law_r34 : ∀ w ∈ wsL_law_r34, w ∈ lw_tbl := y_in _ [1141, 1142, 1143, 624, 625, 626, 627, 628, 1144, 1145, 1146, 1147, 1148, 1149, 629, 630, 631, 632, 633, 635, 16, 636, 638, 74] (by decide +kernel)
set_option maxRecDepth 20000 in
theorem y_wsL_law_r35 : ∀ w ∈ wsL_law_r35, w ∈ lw_tbl := y_in _ [639, 118, 647, 640, 641, 642, 134, 138, 643, 644, 645, 646, 1150, 1151, 1152, 1153, 1154, 1156, 50, 1157, 1158, 1160, 51, 1161] (by decide +kernel)
set_option maxRecDepth 20000 in
theorem y_wsL_law_r36 : ∀ w ∈ wsL_law_r36, w ∈ lw_tbl := y_in _ [1162, 1164, 52, 1165, 1166, 1168, 53, 1169, 784, 1170, 1172, 54, 1173, 648, 649, 650, 651, 652, 653, 654, 1174, 1175, 1176, 1177] (by decide +kernel)
set_option maxRecDepth 20000 in
theorem y_wsL_law_r37 : ∀ w ∈ wsL_law_r37, w ∈ lw_tbl := y_in _ [655, 656, 657, 658, 226, 659, 660, 661, 662, 663, 664, 665, 669, 666, 667, 668, 670, 671, 672, 673, 674, 1178, 1179, 1180] (by decide +kernel)
set_option maxRecDepth 20000 in
theorem y_wsL_law_r38 : ∀ w ∈ wsL_law_r38, w ∈ lw_tbl := y_in _ [1181, 1182, 1183, 1185, 55, 1186, 1187, 1189, 56, 1190, 1191, 1193, 57, 1194, 675, 676, 677, 678, 679, 680, 681, 682, 1195, 1196] (by decide +kernel)
set_option maxRecDepth 20000 in
theorem y_wsL_law_r39 : ∀ w ∈ wsL_law_r39, w ∈ lw_tbl := y_in _ [1197, 1198, 683, 684, 685, 686, 687, 688, 689, 690, 691, 692, 694, 695, 696, 693, 697, 1199, 1200, 1201, 1202, 1203, 1204, 1205] (by decide +kernel)
set_option maxRecDepth 20000 in
theorem y_wsL_law_r40 : ∀ w ∈ wsL_law_r40, w ∈ lw_tbl := y_in _ [1206, 1207, 1208, 698, 699, 700, 701, 1209, 1210, 1211, 1212, 702, 703, 704, 705, 1213, 1214, 1215, 1216, 706, 707, 708, 709, 1217] (by decide +kernel)
set_option maxRecDepth 20000 in
theorem y_wsL_law_r41 : ∀ w ∈ wsL_law_r41, w ∈ lw_tbl := y_in _ [1218, 1219, 1220, 710, 711, 712, 713, 113, 140, 142, 714, 715, 716, 717, 718, 719, 720, 721, 722, 723, 724, 725, 726, 1221] (by decide +kernel)
set_option maxRecDepth 20000 in
theorem y_wsL_law_r42 : ∀ w ∈ wsL_law_r42, w ∈ lw_tbl := y_in _ [1222, 1223, 1224, 1225, 1226, 1228, 58, 1229, 1230, 1232, 59, 1233, 1234, 1236, 60, 1237, 727, 728, 729, 730, 1238, 1239, 1240, 1241] (by decide +kernel)
set_option maxRecDepth 20000 in
theorem y_wsL_law_r43 : ∀ w ∈ wsL_law_r43, w ∈ lw_tbl := y_in _ [731, 732, 733, 734, 1242, 1243, 1244, 1245, 735, 736, 737, 738, 739, 740, 741, 742, 743, 744, 745, 746, 1246, 1247, 1248, 1249] (by decide +kernel)
set_option maxRecDepth 20000 in
theorem y_wsL_law_r44 : ∀ w ∈ wsL_law_r44, w ∈ lw_tbl := y_in _ [1250, 1251] (by decide +kernel)
set_option maxRecDepth 20000 in
theorem y_wsX70 : ∀ w ∈ wsX70, w ∈ lw_tbl := y_in _ [245, 247, 249, 251, 253, 255, 257, 259, 261, 263, 265, 267] (by decide +kernel)
set_option maxRecDepth 20000 in
theorem y_wsX80 : ∀ w ∈ wsX80, w ∈ lw_tbl := y_in _ [786, 788, 790, 792, 794, 796, 798, 800, 802, 804, 806, 808, 810, 812, 814, 816, 818, 820, 822, 824, 826, 828, 830, 832, 834, 836, 838, 840, 842, 844, 846, 848, 850] (by decide +kernel)
set_option maxRecDepth 20000 in
theorem y_wsX50 : ∀ w ∈ wsX50, w ∈ lw_tbl := y_in _ [98, 100] (by decide +kernel)
set_option maxRecDepth 20000 in
theorem y_wsX20 : ∀ w ∈ wsX20, w ∈ lw_tbl := y_in _ [149, 151, 153, 155, 157, 159, 161, 163, 165, 167, 169, 171, 173] (by decide +kernel)
set_option maxRecDepth 20000 in
theorem y_wsX40 : ∀ w ∈ wsX40, w ∈ lw_tbl := y_in _ [188, 190, 192] (by decide +kernel)
set_option maxRecDepth 20000 in
theorem y_wsX60 : ∀ w ∈ wsX60, w ∈ lw_tbl := y_in _ [209, 211, 213, 215] (by decide +kernel)
set_option maxRecDepth 20000 in
theorem y_wsX00 : ∀ w ∈ wsX00, w ∈ lw_tbl := y_in _ [227, 229] (by decide +kernel)
theorem inX1 : ∀ w ∈ wsX10, w ∈ lw_tbl := y_in _ [] (by decide +kernel)
theorem inX3 : ∀ w ∈ wsX30, w ∈ lw_tbl := y_in _ [] (by decide +kernel)
theorem inJ6 : ∀ w ∈ wsJ60, w ∈ lw_tbl := y_in _ [] (by decide +kernel)
theorem inJ9 : ∀ w ∈ wsJ90, w ∈ lw_tbl := y_in _ [] (by decide +kernel)
theorem inJ10 : ∀ w ∈ wsJ100, w ∈ lw_tbl := y_in _ [] (by decide +kernel)
theorem inJ7 : ∀ w ∈ wsJ70, w ∈ lw_tbl := y_in _ [] (by decide +kernel)
theorem wsL_law_in : ∀ w ∈ wsL_law, w ∈ lw_tbl := List.forall_mem_append.mpr ⟨List.forall_mem_append.mpr ⟨List.forall_mem_append.mpr ⟨List.forall_mem_append.mpr ⟨List.forall_mem_append.mpr ⟨List.forall_mem_append.mpr ⟨List.forall_mem_append.mpr ⟨List.forall_mem_append.mpr ⟨List.forall_mem_append.mpr ⟨y_wsL_law_r1, List.forall_mem_append.mpr ⟨y_wsL_law_r2, List.forall_mem_append.mpr ⟨y_wsL_law_r3, List.forall_mem_append.mpr ⟨y_wsL_law_r4, List.forall_mem_append.mpr ⟨y_wsL_law_r5, List.forall_mem_append.mpr ⟨y_wsL_law_r6, List.forall_mem_append.mpr ⟨y_wsL_law_r7, List.forall_mem_append.mpr ⟨y_wsL_law_r8, List.forall_mem_append.mpr ⟨y_wsL_law_r9, List.forall_mem_append.mpr ⟨y_wsL_law_r10, List.forall_mem_append.mpr ⟨y_wsL_law_r11, List.forall_mem_append.mpr ⟨y_wsL_law_r12, List.forall_mem_append.mpr ⟨y_wsL_law_r13, List.forall_mem_append.mpr ⟨y_wsL_law_r14, List.forall_mem_append.mpr ⟨y_wsL_law_r15, List.forall_mem_append.mpr ⟨y_wsL_law_r16, List.forall_mem_append.mpr ⟨y_wsL_law_r17, List.forall_mem_append.mpr ⟨y_wsL_law_r18, List.forall_mem_append.mpr ⟨y_wsL_law_r19, List.forall_mem_append.mpr ⟨y_wsL_law_r20, List.forall_mem_append.mpr ⟨y_wsL_law_r21, List.forall_mem_append.mpr ⟨y_wsL_law_r22, List.forall_mem_append.mpr ⟨y_wsL_law_r23, List.forall_mem_append.mpr ⟨y_wsL_law_r24, List.forall_mem_append.mpr ⟨y_wsL_law_r25, List.forall_mem_append.mpr ⟨y_wsL_law_r26, List.forall_mem_append.mpr ⟨y_wsL_law_r27, List.forall_mem_append.mpr ⟨y_wsL_law_r28, List.forall_mem_append.mpr ⟨y_wsL_law_r29, List.forall_mem_append.mpr ⟨y_wsL_law_r30, List.forall_mem_append.mpr ⟨y_wsL_law_r31, List.forall_mem_append.mpr ⟨y_wsL_law_r32, List.forall_mem_append.mpr ⟨y_wsL_law_r33, List.forall_mem_append.mpr ⟨y_wsL_law_r34, List.forall_mem_append.mpr ⟨y_wsL_law_r35, List.forall_mem_append.mpr ⟨y_wsL_law_r36, List.forall_mem_append.mpr ⟨y_wsL_law_r37, List.forall_mem_append.mpr ⟨y_wsL_law_r38, List.forall_mem_append.mpr ⟨y_wsL_law_r39, List.forall_mem_append.mpr ⟨y_wsL_law_r40, List.forall_mem_append.mpr ⟨y_wsL_law_r41, List.forall_mem_append.mpr ⟨y_wsL_law_r42, List.forall_mem_append.mpr ⟨y_wsL_law_r43, y_wsL_law_r44⟩⟩⟩⟩⟩⟩⟩⟩⟩⟩⟩⟩⟩⟩⟩⟩⟩⟩⟩⟩⟩⟩⟩⟩⟩⟩⟩⟩⟩⟩⟩⟩⟩⟩⟩⟩⟩⟩⟩⟩⟩⟩⟩, y_wsX70⟩, y_wsX80⟩, y_wsX50⟩, y_wsX20⟩, y_wsX40⟩, y_wsX60⟩, y_wsX00⟩, fun _ h => absurd h List.not_mem_nil⟩
theorem inlX0 : ∀ w ∈ wsX00, w ∈ wsL_law := fun _ h => List.mem_append_left _ (List.mem_append_right _ h)
theorem inX0 : ∀ w ∈ wsX00, w ∈ lw_tbl := fun w h => wsL_law_in w (inlX0 w h)
theorem inlX2 : ∀ w ∈ wsX20, w ∈ wsL_law := fun _ h => List.mem_append_left _ (List.mem_append_left _ (List.mem_append_left _ (List.mem_append_left _ (List.mem_append_right _ h))))
theorem inX2 : ∀ w ∈ wsX20, w ∈ lw_tbl := fun w h => wsL_law_in w (inlX2 w h)
theorem inlX4 : ∀ w ∈ wsX40, w ∈ wsL_law := fun _ h => List.mem_append_left _ (List.mem_append_left _ (List.mem_append_left _ (List.mem_append_right _ h)))
theorem inX4 : ∀ w ∈ wsX40, w ∈ lw_tbl := fun w h => wsL_law_in w (inlX4 w h)
theorem inlX5 : ∀ w ∈ wsX50, w ∈ wsL_law := fun _ h => List.mem_append_left _ (List.mem_append_left _ (List.mem_append_left _ (List.mem_append_left _ (List.mem_append_left _ (List.mem_append_right _ h)))))
theorem inX5 : ∀ w ∈ wsX50, w ∈ lw_tbl := fun w h => wsL_law_in w (inlX5 w h)
theorem inlX6 : ∀ w ∈ wsX60, w ∈ wsL_law := fun _ h => List.mem_append_left _ (List.mem_append_left _ (List.mem_append_right _ h))
theorem inX6 : ∀ w ∈ wsX60, w ∈ lw_tbl := fun w h => wsL_law_in w (inlX6 w h)
theorem inlX7 : ∀ w ∈ wsX70, w ∈ wsL_law := fun _ h => List.mem_append_left _ (List.mem_append_left _ (List.mem_append_left _ (List.mem_append_left _ (List.mem_append_left _ (List.mem_append_left _ (List.mem_append_left _ (List.mem_append_right _ h)))))))
theorem inX7 : ∀ w ∈ wsX70, w ∈ lw_tbl := fun w h => wsL_law_in w (inlX7 w h)
theorem inlX8 : ∀ w ∈ wsX80, w ∈ wsL_law := fun _ h => List.mem_append_left _ (List.mem_append_left _ (List.mem_append_left _ (List.mem_append_left _ (List.mem_append_left _ (List.mem_append_left _ (List.mem_append_right _ h))))))
theorem inX8 : ∀ w ∈ wsX80, w ∈ lw_tbl := fun w h => wsL_law_in w (inlX8 w h)
