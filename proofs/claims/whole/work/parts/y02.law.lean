theorem y_in {big : List Cond} (ws : List Cond) (ps : List Nat) (hp : ws = ps.filterMap (fun i => big[i]?)) : ∀ w ∈ ws, w ∈ big := by
  intro w hw
  rw [hp] at hw
  obtain ⟨i, -, hi⟩ := List.mem_filterMap.mp hw
  first | exact List.mem_of_getElem? hi | exact List.getElem?_mem hi
set_option maxRecDepth 20000 in
theorem y_wsL_law_r1 : ∀ w ∈ wsL_law_r1, w ∈ lw_tbl := y_in _ [76, 77, 63, 751, 752, 70, 78, 79, 80, 81, 82, 83, 84, 85, 64, 234, 235, 236, 105, 106, 66, 237, 177, 178] (by decide +kernel)
set_option maxRecDepth 20000 in
theorem y_wsL_law_r2 : ∀ w ∈ wsL_law_r2, w ∈ lw_tbl := y_in _ [67, 238, 196, 197, 68, 239, 219, 220, 69, 240, 104, 241, 242, 243, 244, 245, 86, 87, 88, 89, 90, 95, 97, 92] (by decide +kernel)
set_option maxRecDepth 20000 in
theorem y_wsL_law_r3 : ∀ w ∈ wsL_law_r3, w ∈ lw_tbl := y_in _ [93, 65, 94, 108, 109, 110, 111, 115, 118, 123, 125, 128, 131, 134, 138, 142, 144, 146, 148, 180, 181, 182, 183, 185] (by decide +kernel)
set_option maxRecDepth 20000 in
theorem y_wsL_law_r4 : ∀ w ∈ wsL_law_r4, w ∈ lw_tbl := y_in _ [187, 188, 199, 200, 201, 202, 204, 206, 208, 222, 223, 224, 233, 225, 226, 753, 754, 755, 756, 757, 759, 761, 762, 763] (by decide +kernel)
set_option maxRecDepth 20000 in
theorem y_wsL_law_r5 : ∀ w ∈ wsL_law_r5, w ∈ lw_tbl := y_in _ [765, 766, 767, 768, 771, 773, 777, 779, 782, 783, 784, 785, 786, 787, 789, 271, 272, 273, 274, 275, 276, 277, 278, 279] (by decide +kernel)
set_option maxRecDepth 20000 in
theorem y_wsL_law_r6 : ∀ w ∈ wsL_law_r6, w ∈ lw_tbl := y_in _ [281, 0, 282, 283, 284, 285, 286, 287, 857, 858, 859, 860, 861, 862, 863, 864, 865, 866, 867, 868, 870, 18, 871, 772] (by decide +kernel)
set_option maxRecDepth 20000 in
theorem y_wsL_law_r7 : ∀ w ∈ wsL_law_r7, w ∈ lw_tbl := y_in _ [872, 874, 19, 875, 288, 289, 290, 291, 96, 292, 294, 1, 295, 296, 298, 2, 299, 300, 301, 302, 303, 304, 305, 306] (by decide +kernel)
set_option maxRecDepth 20000 in
theorem y_wsL_law_r8 : ∀ w ∈ wsL_law_r8, w ∈ lw_tbl := y_in _ [307, 308, 876, 877, 878, 879, 880, 882, 20, 883, 884, 886, 21, 887, 769, 309, 310, 311, 312, 888, 889, 890, 891, 313] (by decide +kernel)
set_option maxRecDepth 20000 in
theorem y_wsL_law_r9 : ∀ w ∈ wsL_law_r9, w ∈ lw_tbl := y_in _ [314, 315, 316, 98, 892, 893, 894, 895, 317, 318, 319, 320, 325, 327, 326, 71, 321, 322, 323, 324, 896, 897, 898, 899] (by decide +kernel)
set_option maxRecDepth 20000 in
theorem y_wsL_law_r10 : ∀ w ∈ wsL_law_r10, w ∈ lw_tbl := y_in _ [900, 902, 22, 903, 328, 329, 330, 331, 904, 905, 906, 907, 332, 333, 334, 335, 908, 909, 910, 911, 912, 913, 914, 915] (by decide +kernel)
set_option maxRecDepth 20000 in
theorem y_wsL_law_r11 : ∀ w ∈ wsL_law_r11, w ∈ lw_tbl := y_in _ [336, 337, 338, 339, 916, 917, 918, 919, 340, 341, 342, 343, 344, 345, 346, 347, 348, 349, 72, 350, 120, 351, 352, 353] (by decide +kernel)
set_option maxRecDepth 20000 in
theorem y_wsL_law_r12 : ∀ w ∈ wsL_law_r12, w ∈ lw_tbl := y_in _ [354, 355, 357, 3, 358, 359, 361, 4, 362, 363, 365, 5, 366, 113, 116, 367, 368, 369, 370, 372, 6, 373, 374, 376] (by decide +kernel)
set_option maxRecDepth 20000 in
theorem y_wsL_law_r13 : ∀ w ∈ wsL_law_r13, w ∈ lw_tbl := y_in _ [7, 377, 132, 378, 380, 8, 381, 124, 126, 129, 382, 383, 384, 920, 921, 922, 923, 924, 926, 23, 927, 774, 775, 776] (by decide +kernel)
set_option maxRecDepth 20000 in
theorem y_wsL_law_r14 : ∀ w ∈ wsL_law_r14, w ∈ lw_tbl := y_in _ [778, 780, 781, 928, 930, 24, 931, 932, 934, 25, 935, 936, 938, 26, 939, 940, 942, 27, 943, 944, 946, 28, 947, 948] (by decide +kernel)
set_option maxRecDepth 20000 in
theorem y_wsL_law_r15 : ∀ w ∈ wsL_law_r15, w ∈ lw_tbl := y_in _ [950, 29, 951, 952, 953, 954, 955, 957, 30, 958, 959, 960, 961, 387, 388, 389, 390, 186, 122, 391, 392, 393, 394, 395] (by decide +kernel)
set_option maxRecDepth 20000 in
theorem y_wsL_law_r16 : ∀ w ∈ wsL_law_r16, w ∈ lw_tbl := y_in _ [396, 398, 9, 399, 400, 962, 963, 964, 965, 758, 760, 764, 401, 402, 403, 404, 405, 406, 407, 408, 409, 410, 411, 412] (by decide +kernel)
set_option maxRecDepth 20000 in
theorem y_wsL_law_r17 : ∀ w ∈ wsL_law_r17, w ∈ lw_tbl := y_in _ [413, 414, 415, 416, 417, 418, 419, 420, 421, 422, 73, 423, 424, 425, 426, 427, 428, 429, 430, 431, 432, 966, 967, 968] (by decide +kernel)
set_option maxRecDepth 20000 in
theorem y_wsL_law_r18 : ∀ w ∈ wsL_law_r18, w ∈ lw_tbl := y_in _ [969, 974, 970, 972, 31, 973, 975, 977, 32, 978, 979, 981, 33, 982, 983, 984, 985, 986, 987, 988, 989, 990, 991, 433] (by decide +kernel)
set_option maxRecDepth 20000 in
theorem y_wsL_law_r19 : ∀ w ∈ wsL_law_r19, w ∈ lw_tbl := y_in _ [434, 435, 436, 145, 127, 443, 437, 438, 439, 440, 444, 445, 446, 447, 448, 449, 450, 451, 452, 453, 454, 455, 456, 457] (by decide +kernel)
set_option maxRecDepth 20000 in
theorem y_wsL_law_r20 : ∀ w ∈ wsL_law_r20, w ∈ lw_tbl := y_in _ [992, 993, 994, 995, 996, 998, 34, 999, 1000, 1002, 35, 1003, 1004, 1006, 36, 1007, 1008, 1010, 37, 1011, 458, 459, 460, 461] (by decide +kernel)
set_option maxRecDepth 20000 in
theorem y_wsL_law_r21 : ∀ w ∈ wsL_law_r21, w ∈ lw_tbl := y_in _ [117, 462, 463, 464, 465, 1012, 1013, 1014, 1015, 1016, 1018, 38, 1019, 466, 467, 468, 469, 147, 137, 470, 471, 472, 473, 474] (by decide +kernel)
set_option maxRecDepth 20000 in
theorem y_wsL_law_r22 : ∀ w ∈ wsL_law_r22, w ∈ lw_tbl := y_in _ [475, 476, 477, 478, 480, 10, 481, 482, 483, 484, 485, 486, 487, 488, 489, 490, 491, 1020, 1021, 1022, 1023, 1024, 1026, 39] (by decide +kernel)
set_option maxRecDepth 20000 in
theorem y_wsL_law_r23 : ∀ w ∈ wsL_law_r23, w ∈ lw_tbl := y_in _ [1027, 1028, 1030, 40, 1031, 492, 493, 494, 495, 496, 497, 498, 499, 1032, 1033, 1034, 1035, 1036, 1038, 41, 1039, 1040, 1042, 42] (by decide +kernel)
set_option maxRecDepth 20000 in
theorem y_wsL_law_r24 : ∀ w ∈ wsL_law_r24, w ∈ lw_tbl := y_in _ [1043, 500, 501, 502, 503, 504, 505, 506, 507, 1044, 1045, 1046, 1047, 508, 509, 510, 511, 149, 1048, 1049, 1050, 1051, 1052, 1053] (by decide +kernel)
set_option maxRecDepth 20000 in
theorem y_wsL_law_r25 : ∀ w ∈ wsL_law_r25, w ∈ lw_tbl := y_in _ [1055, 43, 1056, 512, 513, 514, 515, 1057, 1058, 1059, 1060, 516, 517, 518, 519, 520, 521, 522, 523, 1061, 1062, 1063, 1064, 524] (by decide +kernel)
set_option maxRecDepth 20000 in
theorem y_wsL_law_r26 : ∀ w ∈ wsL_law_r26, w ∈ lw_tbl := y_in _ [525, 526, 527, 1065, 1066, 1067, 1068, 528, 529, 530, 531, 532, 1069, 1070, 1071, 1072, 1073, 1075, 44, 1076, 533, 534, 535, 536] (by decide +kernel)
set_option maxRecDepth 20000 in
theorem y_wsL_law_r27 : ∀ w ∈ wsL_law_r27, w ∈ lw_tbl := y_in _ [537, 1077, 1078, 1079, 1080, 538, 539, 540, 541, 203, 542, 543, 544, 545, 546, 548, 11, 549, 140, 112, 121, 136, 550, 552] (by decide +kernel)
set_option maxRecDepth 20000 in
theorem y_wsL_law_r28 : ∀ w ∈ wsL_law_r28, w ∈ lw_tbl := y_in _ [12, 553, 554, 555, 556, 557, 558, 559, 560, 561, 562, 1081, 1082, 1083, 1084, 1085, 1087, 45, 1088, 1089, 1091, 46, 1092, 1093] (by decide +kernel)
set_option maxRecDepth 20000 in
theorem y_wsL_law_r29 : ∀ w ∈ wsL_law_r29, w ∈ lw_tbl := y_in _ [1095, 47, 1096, 563, 564, 565, 566, 209, 567, 569, 13, 570, 571, 572, 573, 574, 1097, 1098, 1099, 1100, 575, 576, 577, 578] (by decide +kernel)
set_option maxRecDepth 20000 in
theorem y_wsL_law_r30 : ∀ w ∈ wsL_law_r30, w ∈ lw_tbl := y_in _ [207, 205, 579, 581, 14, 582, 1101, 1102, 1103, 1104, 770, 583, 584, 585, 586, 133, 1105, 1106, 1107, 1108, 587, 588, 589, 590] (by decide +kernel)
set_option maxRecDepth 20000 in
theorem y_wsL_law_r31 : ∀ w ∈ wsL_law_r31, w ∈ lw_tbl := y_in _ [591, 592, 74, 593, 594, 595, 596, 597, 598, 599, 1109, 1110, 1111, 1112, 1113, 1114, 1115, 1116, 1117, 1119, 48, 1120, 1121, 1122] (by decide +kernel)
set_option maxRecDepth 20000 in
theorem y_wsL_law_r32 : ∀ w ∈ wsL_law_r32, w ∈ lw_tbl := y_in _ [1123, 600, 601, 602, 603, 604, 605, 606, 607, 1124, 1125, 1126, 1127, 608, 609, 610, 611, 1128, 1129, 1130, 1131, 612, 613, 614] (by decide +kernel)
set_option maxRecDepth 20000 in
theorem y_wsL_law_r33 : ∀ w ∈ wsL_law_r33, w ∈ lw_tbl := y_in _ [615, 616, 618, 15, 619, 620, 622, 16, 623, 130, 1132, 1133, 1134, 1135, 1136, 1138, 49, 1139, 1140, 1142, 50, 1143, 624, 625] (by decide +kernel)
set_option maxRecDepth 20000 in
theorem y_wsL_law_r34 : ∀ w ∈ wsL_law_r34, w ∈ lw_tbl := y_in _ [626, 627, 1144, 1145, 1146, 1147, 628, 629, 630, 631, 632, 1148, 1149, 1150, 1151, 1152, 1153, 633, 634, 635, 636, 637, 639, 17] (by decide +kernel)
set_option maxRecDepth 20000 in
theorem y_wsL_law_r35 : ∀ w ∈ wsL_law_r35, w ∈ lw_tbl := y_in _ [640, 642, 75, 643, 119, 651, 644, 645, 646, 135, 139, 647, 648, 649, 650, 1154, 1155, 1156, 1157, 1158, 1160, 51, 1161, 1162] (by decide +kernel)
set_option maxRecDepth 20000 in
theorem y_wsL_law_r36 : ∀ w ∈ wsL_law_r36, w ∈ lw_tbl := y_in _ [1164, 52, 1165, 1166, 1168, 53, 1169, 1170, 1172, 54, 1173, 788, 1174, 1176, 55, 1177, 652, 653, 654, 655, 656, 657, 658, 1178] (by decide +kernel)
set_option maxRecDepth 20000 in
theorem y_wsL_law_r37 : ∀ w ∈ wsL_law_r37, w ∈ lw_tbl := y_in _ [1179, 1180, 1181, 659, 660, 661, 662, 227, 663, 664, 665, 666, 667, 668, 669, 673, 670, 671, 672, 674, 675, 676, 677, 678] (by decide +kernel)
set_option maxRecDepth 20000 in
theorem y_wsL_law_r38 : ∀ w ∈ wsL_law_r38, w ∈ lw_tbl := y_in _ [1182, 1183, 1184, 1185, 1186, 1187, 1189, 56, 1190, 1191, 1193, 57, 1194, 1195, 1197, 58, 1198, 679, 680, 681, 682, 683, 684, 685] (by decide +kernel)
set_option maxRecDepth 20000 in
theorem y_wsL_law_r39 : ∀ w ∈ wsL_law_r39, w ∈ lw_tbl := y_in _ [686, 1199, 1200, 1201, 1202, 687, 688, 689, 690, 691, 692, 693, 694, 695, 696, 698, 699, 700, 697, 701, 1203, 1204, 1205, 1206] (by decide +kernel)
set_option maxRecDepth 20000 in
theorem y_wsL_law_r40 : ∀ w ∈ wsL_law_r40, w ∈ lw_tbl := y_in _ [1207, 1208, 1209, 1210, 1211, 1212, 702, 703, 704, 705, 1213, 1214, 1215, 1216, 706, 707, 708, 709, 1217, 1218, 1219, 1220, 710, 711] (by decide +kernel)
set_option maxRecDepth 20000 in
theorem y_wsL_law_r41 : ∀ w ∈ wsL_law_r41, w ∈ lw_tbl := y_in _ [712, 713, 1221, 1222, 1223, 1224, 714, 715, 716, 717, 114, 141, 143, 718, 719, 720, 721, 722, 723, 724, 725, 726, 727, 728] (by decide +kernel)
set_option maxRecDepth 20000 in
theorem y_wsL_law_r42 : ∀ w ∈ wsL_law_r42, w ∈ lw_tbl := y_in _ [729, 730, 1225, 1226, 1227, 1228, 1229, 1230, 1232, 59, 1233, 1234, 1236, 60, 1237, 1238, 1240, 61, 1241, 731, 732, 733, 734, 1242] (by decide +kernel)
set_option maxRecDepth 20000 in
theorem y_wsL_law_r43 : ∀ w ∈ wsL_law_r43, w ∈ lw_tbl := y_in _ [1243, 1244, 1245, 735, 736, 737, 738, 1246, 1247, 1248, 1249, 739, 740, 741, 742, 743, 744, 745, 746, 747, 748, 749, 750, 1250] (by decide +kernel)
set_option maxRecDepth 20000 in
theorem y_wsL_law_r44 : ∀ w ∈ wsL_law_r44, w ∈ lw_tbl := y_in _ [1251, 1252, 1253, 1254, 1255] (by decide +kernel)
set_option maxRecDepth 20000 in
theorem y_wsX70 : ∀ w ∈ wsX70, w ∈ lw_tbl := y_in _ [246, 248, 250, 252, 254, 256, 258, 260, 262, 264, 266, 268] (by decide +kernel)
set_option maxRecDepth 20000 in
theorem y_wsX80 : ∀ w ∈ wsX80, w ∈ lw_tbl := y_in _ [790, 792, 794, 796, 798, 800, 802, 804, 806, 808, 810, 812, 814, 816, 818, 820, 822, 824, 826, 828, 830, 832, 834, 836, 838, 840, 842, 844, 846, 848, 850, 852, 854] (by decide +kernel)
set_option maxRecDepth 20000 in
theorem y_wsX50 : ∀ w ∈ wsX50, w ∈ lw_tbl := y_in _ [99, 101] (by decide +kernel)
set_option maxRecDepth 20000 in
theorem y_wsX20 : ∀ w ∈ wsX20, w ∈ lw_tbl := y_in _ [150, 152, 154, 156, 158, 160, 162, 164, 166, 168, 170, 172, 174] (by decide +kernel)
set_option maxRecDepth 20000 in
theorem y_wsX40 : ∀ w ∈ wsX40, w ∈ lw_tbl := y_in _ [189, 191, 193] (by decide +kernel)
set_option maxRecDepth 20000 in
theorem y_wsX60 : ∀ w ∈ wsX60, w ∈ lw_tbl := y_in _ [210, 212, 214, 216] (by decide +kernel)
set_option maxRecDepth 20000 in
theorem y_wsX00 : ∀ w ∈ wsX00, w ∈ lw_tbl := y_in _ [228, 230] (by decide +kernel)
theorem inX1 : ∀ w ∈ wsX10, w ∈ lw_tbl := y_in _ [] (by decide +kernel)
theorem inX3 : ∀ w ∈ wsX30, w ∈ lw_tbl := y_in _ [] (by decide +kernel)
theorem inJ6 : ∀ w ∈ wsJ60, w ∈ lw_tbl := y_in _ [] (by decide +kernel)
theorem inJ9 : ∀ w ∈ wsJ90, w ∈ lw_tbl := y_in _ [] (by decide +kernel)
theorem inJ10 : ∀ w ∈ wsJ100, w ∈ lw_tbl := y_in _ [] (by decide +kernel)
theorem inJ7 : ∀ w ∈ wsJ70, w ∈ lw_tbl := y_in _ [] (by decide +kernel)
theorem wsL_law_in : ∀ w ∈ wsL_law, w ∈ lw_tbl := List.forall_mem_append.mpr ⟨List.forall_mem_append.mpr ⟨List.forall_mem_append.mpr ⟨List.forall_mem_append.mpr ⟨List.forall_mem_append.mpr ⟨List.forall_mem_append.mpr ⟨List.forall_mem_append.mpr ⟨List.forall_mem_append.mpr ⟨List.forall_mem_append.mpr ⟨y_wsL_law_r1, List.forall_mem_append.mpr ⟨y_wsL_law_r2, List.forall_mem_append.mpr ⟨y_wsL_law_r3, List.forall_mem_append.mpr ⟨y_wsL_law_r4, List.forall_mem_append.mpr ⟨y_wsL_law_r5, List.forall_mem_append.mpr ⟨y_wsL_law_r6, List.forall_mem_append.mpr ⟨y_wsL_law_r7, List.forall_mem_append.mpr ⟨y_wsL_law_r8, List.forall_mem_append.mpr ⟨y_wsL_law_r9, List.forall_mem_append.mpr ⟨y_wsL_law_r10, List.forall_mem_append.mpr ⟨y_wsL_law_r11, List.forall_mem_append.mpr ⟨y_wsL_law_r12, List.forall_mem_append.mpr ⟨y_wsL_law_r13, List.forall_mem_append.mpr ⟨y_wsL_law_r14, List.forall_mem_append.mpr ⟨y_wsL_law_r15, List.forall_mem_append.mpr ⟨y_wsL_law_r16, List.forall_mem_append.mpr ⟨y_wsL_law_r17, List.forall_mem_append.mpr ⟨y_wsL_law_r18, List.forall_mem_append.mpr ⟨y_wsL_law_r19, List.forall_mem_append.mpr ⟨y_wsL_law_r20, List.forall_mem_append.mpr ⟨y_wsL_law_r21, List.forall_mem_append.mpr ⟨y_wsL_law_r22, List.forall_mem_append.mpr ⟨y_wsL_law_r23, List.forall_mem_append.mpr ⟨y_wsL_law_r24, List.forall_mem_append.mpr ⟨y_wsL_law_r25, List.forall_mem_append.mpr ⟨y_wsL_law_r26, List.forall_mem_append.mpr ⟨y_wsL_law_r27, List.forall_mem_append.mpr ⟨y_wsL_law_r28, List.forall_mem_append.mpr ⟨y_wsL_law_r29, List.forall_mem_append.mpr ⟨y_wsL_law_r30, List.forall_mem_append.mpr ⟨y_wsL_law_r31, List.forall_mem_append.mpr ⟨y_wsL_law_r32, List.forall_mem_append.mpr ⟨y_wsL_law_r33, List.forall_mem_append.mpr ⟨y_wsL_law_r34, List.forall_mem_append.mpr ⟨y_wsL_law_r35, List.forall_mem_append.mpr ⟨y_wsL_law_r36, List.forall_mem_append.mpr ⟨y_wsL_law_r37, List.forall_mem_append.mpr ⟨y_wsL_law_r38, List.forall_mem_append.mpr ⟨y_wsL_law_r39, List.forall_mem_append.mpr ⟨y_wsL_law_r40, List.forall_mem_append.mpr ⟨y_wsL_law_r41, List.forall_mem_append.mpr ⟨y_wsL_law_r42, List.forall_mem_append.mpr ⟨y_wsL_law_r43, y_wsL_law_r44⟩⟩⟩⟩⟩⟩⟩⟩⟩⟩⟩⟩⟩⟩⟩⟩⟩⟩⟩⟩⟩⟩⟩⟩⟩⟩⟩⟩⟩⟩⟩⟩⟩⟩⟩⟩⟩⟩⟩⟩⟩⟩⟩, y_wsX70⟩, y_wsX80⟩, y_wsX50⟩, y_wsX20⟩, y_wsX40⟩, y_wsX60⟩, y_wsX00⟩, (fun w h => absurd h (List.not_mem_nil))⟩
theorem inlX0 : ∀ w ∈ wsX00, w ∈ wsL_law := fun _ h => List.mem_append_left _ (List.mem_append_right _ h)
theorem inX0 : ∀ w ∈ wsX00, w ∈ lw_tbl := fun w h => wsL_law_in w (inlX0 w h)
theorem inlX2 : ∀ w ∈ wsX20, w ∈ wsL_law := fun _ h => List.mem_append_left _ (List.mem_append_left _ (List.mem_append_left _ (List.mem_append_left _ (List.mem_append_right _ h))))
theorem inX2 : ∀ w ∈ wsX20, w ∈ lw_tbl := fun w h => wsL_law_in w (inlX2 w h)
theorem inlX4 : ∀ w ∈ wsX40, w ∈ wsL_law := fun _ h => List.mem_append_left _ (List.mem_append_left _ (List.mem_append_left _ (List.mem_append_right _ h)))
theorem inX4 : ∀ w ∈ wsX40, w ∈ lw_tbl := fun w h => wsL_law_in w (inlX4 w h)
theorem inlX5 : ∀ w ∈ wsX50, w ∈ wsL_law := fun _ h => List.mem_append_left _ (List.mem_append_left _ (List.mem_append_left _ (List.mem_append_left _ (List.mem_append_left _ (List.mem_append_right _ h)))))
theorem inX5 : ∀ w ∈ wsX50, w ∈ lw_tbl := fun w h => wsL_law_in w (inlX5 w h)
theorem inlX6 : ∀ w ∈ wsX60, w ∈ wsL_law := fun _ h => List.mem_append_left _ (List.mem_append_left _ (List.mem_append_right _ h))
theorem inX6 : ∀ w ∈ wsX60, w ∈ lw_tbl := fun w h => wsL_law_in w (inlX6 w h)
theorem inlX7 : ∀ w ∈ wsX70, w ∈ wsL_law := fun _ h => List.mem_append_left _ (List.mem_append_left _ (List.mem_append_left _ (List.mem_append_left _ (List.mem_append_left _ (List.mem_append_left _ (List.mem_append_left _ (List.mem_append_right _ h)))))))
theorem inX7 : ∀ w ∈ wsX70, w ∈ lw_tbl := fun w h => wsL_law_in w (inlX7 w h)
theorem inlX8 : ∀ w ∈ wsX80, w ∈ wsL_law := fun _ h => List.mem_append_left _ (List.mem_append_left _ (List.mem_append_left _ (List.mem_append_left _ (List.mem_append_left _ (List.mem_append_left _ (List.mem_append_right _ h))))))
theorem inX8 : ∀ w ∈ wsX80, w ∈ lw_tbl := fun w h => wsL_law_in w (inlX8 w h)
