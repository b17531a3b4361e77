set_option maxRecDepth 20000 in
theorem wsL_law_in : ∀ w ∈ wsL_law, w ∈ lw_tbl := fun w h => (goodIn_p wsL_law [79, 82, 87, 93, 108, 180, 199, 222, 751, 273, 277, 281, 285, 856, 859, 863, 867, 871, 290, 294, 298, 302, 306, 875, 879, 883, 311, 887, 315, 891, 319, 323, 895, 899, 330, 903, 334, 907, 910, 338, 915, 342, 346, 349, 353, 357, 362, 366, 369, 373, 377, 381, 385, 389, 392, 398, 402, 406, 410, 413, 417, 421, 425, 428, 919, 923, 927, 931, 935, 939, 943, 947, 950, 954, 957, 434, 438, 961, 443, 448, 965, 969, 974, 978, 981, 984, 987, 452, 456, 464, 468, 472, 991, 995, 999, 1003, 1007, 477, 1011, 1015, 482, 486, 490, 1019, 1023, 1027, 494, 498, 1031, 1035, 1039, 502, 1043, 507, 1047, 1052, 511, 1056, 515, 519, 1060, 523, 1064, 527, 1068, 1072, 532, 1076, 537, 541, 545, 549, 554, 558, 1080, 1084, 1088, 1092, 562, 566, 570, 1096, 574, 578, 1100, 582, 1104, 586, 589, 592, 595, 1108, 1111, 1116, 1119, 599, 602, 1123, 607, 1127, 611, 615, 619, 1131, 1135, 1139, 623, 1143, 627, 1147, 632, 636, 639, 642, 1153, 1157, 1161, 1165, 1169, 1173, 651, 654, 1177, 658, 661, 665, 668, 673, 1181, 1186, 1190, 1194, 678, 682, 1198, 686, 692, 1202, 701, 1212, 705, 1216, 709, 1220, 713, 717, 721, 726, 1224, 1229, 1233, 1237, 730, 1241, 734, 1245, 738, 745, 1249] (by decide +kernel) (by decide +kernel) w h).1
theorem inlX0 : ∀ w ∈ wsX00, w ∈ wsL_law := fun _ h => List.mem_append_left _ (List.mem_append_right _ h)
theorem inX0 : ∀ w ∈ wsX00, w ∈ lw_tbl := fun w h => wsL_law_in w (inlX0 w h)
theorem inX1 : ∀ w ∈ wsX10, w ∈ lw_tbl := by decide +kernel
theorem inlX2 : ∀ w ∈ wsX20, w ∈ wsL_law := fun _ h => List.mem_append_left _ (List.mem_append_left _ (List.mem_append_left _ (List.mem_append_left _ (List.mem_append_right _ h))))
theorem inX2 : ∀ w ∈ wsX20, w ∈ lw_tbl := fun w h => wsL_law_in w (inlX2 w h)
theorem inX3 : ∀ w ∈ wsX30, w ∈ lw_tbl := by decide +kernel
theorem inlX4 : ∀ w ∈ wsX40, w ∈ wsL_law := fun _ h => List.mem_append_left _ (List.mem_append_left _ (List.mem_append_left _ (List.mem_append_right _ h)))
theorem inX4 : ∀ w ∈ wsX40, w ∈ lw_tbl := fun w h => wsL_law_in w (inlX4 w h)
theorem inlX5 : ∀ w ∈ wsX50, w ∈ wsL_law := fun _ h => List.mem_append_left _ (List.mem_append_left _ (List.mem_append_left _ (List.mem_append_left _ (List.mem_append_left _ (List.mem_append_right _ h)))))
theorem inX5 : ∀ w ∈ wsX50, w ∈ lw_tbl := fun w h => wsL_law_in w (inlX5 w h)
theorem inlX6 : ∀ w ∈ wsX60, w ∈ wsL_law := fun _ h => List.mem_append_left _ (List.mem_append_left _ (List.mem_append_right _ h))
theorem inX6 : ∀ w ∈ wsX60, w ∈ lw_tbl := fun w h => wsL_law_in w (inlX6 w h)
theorem inlX7 : ∀ w ∈ wsX70, w ∈ wsL_law := fun _ h => List.mem_append_left _ (List.mem_append_left _ (List.mem_append_left _ (List.mem_append_left _ (List.mem_append_left _ (List.mem_append_left _ (List.mem_append_left _ (List.mem_append_right _ h)))))))
theorem inX7 : ∀ w ∈ wsX70, w ∈ lw_tbl := fun w h => wsL_law_in w (inlX7 w h)
theorem inlX8 : ∀ w ∈ wsX80, w ∈ wsL_law := fun _ h => List.mem_append_left _ (List.mem_append_left _ (List.mem_append_left _ (List.mem_append_left _ (List.mem_append_left _ (List.mem_append_left _ (List.mem_append_right _ h))))))
theorem inX8 : ∀ w ∈ wsX80, w ∈ lw_tbl := fun w h => wsL_law_in w (inlX8 w h)
theorem inJ6 : ∀ w ∈ wsJ60, w ∈ lw_tbl := by decide +kernel
theorem inJ9 : ∀ w ∈ wsJ90, w ∈ lw_tbl := by decide +kernel
theorem inJ10 : ∀ w ∈ wsJ100, w ∈ lw_tbl := by decide +kernel
theorem inJ7 : ∀ w ∈ wsJ70, w ∈ lw_tbl := by decide +kernel
