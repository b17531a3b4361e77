set_option maxRecDepth 20000 in
theorem wsL_law_in : ∀ w ∈ wsL_law, w ∈ lw_tbl := fun w h => (goodIn_p wsL_law [80, 83, 88, 94, 109, 181, 200, 223, 755, 274, 278, 282, 286, 860, 863, 867, 871, 875, 291, 295, 299, 303, 307, 879, 883, 887, 312, 891, 316, 895, 320, 324, 899, 903, 331, 907, 335, 911, 914, 339, 919, 343, 347, 350, 354, 358, 362, 366, 369, 373, 377, 381, 384, 923, 927, 931, 935, 939, 943, 947, 951, 954, 958, 961, 390, 394, 399, 965, 404, 408, 412, 416, 420, 423, 429, 432, 969, 973, 978, 982, 985, 988, 991, 436, 440, 448, 452, 456, 995, 999, 1003, 1007, 1011, 461, 465, 1015, 1019, 469, 473, 477, 481, 485, 491, 1023, 1027, 1031, 495, 499, 1035, 1039, 1043, 503, 507, 1047, 511, 1051, 1056, 515, 1060, 519, 523, 1064, 527, 1068, 531, 1072, 1076, 536, 1080, 541, 545, 549, 553, 558, 562, 1084, 1088, 1092, 1096, 566, 570, 574, 1100, 578, 582, 1104, 586, 1108, 590, 593, 596, 599, 1112, 1115, 1120, 1123, 603, 606, 1127, 611, 1131, 615, 619, 623, 1135, 1139, 1143, 627, 1147, 631, 1151, 636, 640, 643, 646, 1157, 1161, 1165, 1169, 1173, 1177, 655, 658, 1181, 662, 665, 669, 672, 677, 1185, 1190, 1194, 1198, 682, 686, 1202, 690, 696, 1206, 705, 1216, 709, 1220, 713, 1224, 717, 721, 725, 730, 1228, 1233, 1237, 1241, 734, 1245, 738, 1249, 742, 749, 1253] (by decide +kernel) (by decide +kernel) w h).1
theorem inlX0 : ∀ w ∈ wsX00, w ∈ wsL_law := fun _ h => List.mem_append_left _ (List.mem_append_right _ h)
theorem inX0 : ∀ w ∈ wsX00, w ∈ lw_tbl := fun w h => wsL_law_in w (inlX0 w h)
theorem inX1 : ∀ w ∈ wsX10, w ∈ lw_tbl := by decide +kernel
theorem inlX2 : ∀ w ∈ wsX20, w ∈ wsL_law := fun _ h => List.mem_append_left _ (List.mem_append_left _ (List.mem_append_left _ (List.mem_append_left _ (List.mem_append_right _ h))))
theorem inX2 : ∀ w ∈ wsX20, w ∈ lw_tbl := fun w h => wsL_law_in w (inlX2 w h)
theorem inX3 : ∀ w ∈ wsX30, w ∈ lw_tbl := by decide +kernel
theorem inlX4 : ∀ w ∈ wsX40, w ∈ wsL_law := fun _ h => List.mem_append_left _ (List.mem_append_left _ (List.mem_append_left _ (List.mem_append_right _ h)))
theorem inX4 : ∀ w ∈ wsX40, w ∈ lw_tbl := fun w h => wsL_law_in w (inlX4 w h)
theorem inlX5 : ∀ w ∈ wsX50, w ∈ wsL_law := fun _ h => List.mem_append_left _ (List.mem_append_left _ (List.mem_append_left _ (List.mem_append_left _ (List.mem_append_left _ (List.mem_append_right _ h)))))
theorem inX5 : ∀ w ∈ wsX50, w ∈ lw_tbl := fun w h => wsL_law_in w (inlX5 w h)
theorem inlX6 : ∀ w ∈ wsX60, w ∈ wsL_law := fun _ h => List.mem_append_left _ (List.mem_append_left _ (List.mem_append_right _ h))
theorem inX6 : ∀ w ∈ wsX60, w ∈ lw_tbl := fun w h => wsL_law_in w (inlX6 w h)
theorem inlX7 : ∀ w ∈ wsX70, w ∈ wsL_law := fun _ h => List.mem_append_left _ (List.mem_append_left _ (List.mem_append_left _ (List.mem_append_left _ (List.mem_append_left _ (List.mem_append_left _ (List.mem_append_left _ (List.mem_append_right _ h)))))))
theorem inX7 : ∀ w ∈ wsX70, w ∈ lw_tbl := fun w h => wsL_law_in w (inlX7 w h)
theorem inlX8 : ∀ w ∈ wsX80, w ∈ wsL_law := fun _ h => List.mem_append_left _ (List.mem_append_left _ (List.mem_append_left _ (List.mem_append_left _ (List.mem_append_left _ (List.mem_append_left _ (List.mem_append_right _ h))))))
theorem inX8 : ∀ w ∈ wsX80, w ∈ lw_tbl := fun w h => wsL_law_in w (inlX8 w h)
theorem inJ6 : ∀ w ∈ wsJ60, w ∈ lw_tbl := by decide +kernel
theorem inJ9 : ∀ w ∈ wsJ90, w ∈ lw_tbl := by decide +kernel
theorem inJ10 : ∀ w ∈ wsJ100, w ∈ lw_tbl := by decide +kernel
theorem inJ7 : ∀ w ∈ wsJ70, w ∈ lw_tbl := by decide +kernel
