theorem z_mem {big ws : List Cond} (ps : List Nat) (hp : ws = ps.filterMap (fun i => big[i]?)) : ∀ w ∈ ws, w ∈ big := by
  intro w hw
  rw [hp] at hw
  obtain ⟨i, -, hi⟩ := List.mem_filterMap.mp hw
  exact List.mem_of_getElem? hi
theorem z_app {big a b : List Cond} (ha : ∀ w ∈ a, w ∈ big) (hb : ∀ w ∈ b, w ∈ big) : ∀ w ∈ a ++ b, w ∈ big := fun w h => (List.mem_append.mp h).elim (ha w) (hb w)
set_option maxRecDepth 20000 in
theorem in_wsL_law_r1 : ∀ w ∈ wsL_law_r1, w ∈ lw_tbl := z_mem [78, 79, 64, 828, 829, 73, 80, 81, 82, 83, 84, 85, 86, 87, 65, 319, 127, 128, 66, 320, 160, 161, 67, 321] (by decide +kernel)
set_option maxRecDepth 20000 in
theorem in_wsL_law_r2 : ∀ w ∈ wsL_law_r2, w ∈ lw_tbl := z_mem [191, 192, 68, 322, 220, 221, 69, 323, 248, 249, 70, 324, 268, 269, 71, 325, 296, 326, 298, 72, 88, 89, 90, 91] (by decide +kernel)
set_option maxRecDepth 20000 in
theorem in_wsL_law_r3 : ∀ w ∈ wsL_law_r3, w ∈ lw_tbl := z_mem [126, 104, 106, 107, 108, 129, 130, 131, 132, 139, 142, 146, 162, 163, 164, 165, 166, 167, 190, 170, 171, 174, 193, 194] (by decide +kernel)
set_option maxRecDepth 20000 in
theorem in_wsL_law_r4 : ∀ w ∈ wsL_law_r4, w ∈ lw_tbl := z_mem [195, 196, 197, 198, 201, 202, 203, 204, 222, 223, 224, 225, 226, 227, 228, 229, 230, 250, 251, 252, 253, 254, 255, 256] (by decide +kernel)
set_option maxRecDepth 20000 in
theorem in_wsL_law_r5 : ∀ w ∈ wsL_law_r5, w ∈ lw_tbl := z_mem [257, 270, 271, 272, 273, 274, 275, 276, 278, 299, 300, 301, 302, 303, 830, 831, 832, 833, 836, 837, 838, 842, 931, 843] (by decide +kernel)
set_option maxRecDepth 20000 in
theorem in_wsL_law_r6 : ∀ w ∈ wsL_law_r6, w ∈ lw_tbl := z_mem [847, 849, 850, 851, 854, 855, 858, 859, 860, 861, 862, 863, 864, 865, 350, 351, 352, 353, 327, 304, 136, 200, 168, 96] (by decide +kernel)
set_option maxRecDepth 20000 in
theorem in_wsL_law_r7 : ∀ w ∈ wsL_law_r7, w ∈ lw_tbl := z_mem [354, 355, 356, 357, 358, 359, 360, 361, 362, 363, 364, 365, 366, 367, 305, 307, 368, 369, 370, 371, 309, 372, 373, 374] (by decide +kernel)
set_option maxRecDepth 20000 in
theorem in_wsL_law_r8 : ∀ w ∈ wsL_law_r8, w ∈ lw_tbl := z_mem [375, 376, 377, 378, 379, 92, 94, 98, 101, 380, 381, 74, 382, 932, 933, 934, 935, 834, 844, 845, 839, 846, 840, 848] (by decide +kernel)
set_option maxRecDepth 20000 in
theorem in_wsL_law_r9 : ∀ w ∈ wsL_law_r9, w ∈ lw_tbl := z_mem [857, 841, 936, 937, 938, 939, 940, 941, 942, 943, 944, 945, 947, 24, 948, 949, 951, 25, 952, 953, 955, 26, 956, 957] (by decide +kernel)
set_option maxRecDepth 20000 in
theorem in_wsL_law_r10 : ∀ w ∈ wsL_law_r10, w ∈ lw_tbl := z_mem [959, 27, 960, 961, 963, 28, 964, 965, 967, 29, 968, 383, 384, 385, 386, 105, 387, 389, 0, 390, 391, 392, 393, 394] (by decide +kernel)
set_option maxRecDepth 20000 in
theorem in_wsL_law_r11 : ∀ w ∈ wsL_law_r11, w ∈ lw_tbl := z_mem [395, 396, 397, 398, 399, 400, 401, 402, 133, 969, 970, 971, 972, 973, 975, 30, 976, 977, 979, 31, 980, 981, 983, 32] (by decide +kernel)
set_option maxRecDepth 20000 in
theorem in_wsL_law_r12 : ∀ w ∈ wsL_law_r12, w ∈ lw_tbl := z_mem [984, 403, 404, 405, 406, 102, 407, 408, 409, 410, 137, 411, 412, 413, 414, 99, 140, 144, 415, 417, 1, 418, 103, 447] (by decide +kernel)
set_option maxRecDepth 20000 in
theorem in_wsL_law_r13 : ∀ w ∈ wsL_law_r13, w ∈ lw_tbl := z_mem [448, 419, 420, 421, 422, 423, 424, 75, 425, 426, 427, 428, 429, 430, 431, 432, 433, 76, 434, 435, 436, 437, 438, 439] (by decide +kernel)
set_option maxRecDepth 20000 in
theorem in_wsL_law_r14 : ∀ w ∈ wsL_law_r14, w ∈ lw_tbl := z_mem [440, 441, 442, 443, 444, 445, 446, 985, 986, 987, 988, 449, 450, 451, 452, 989, 990, 991, 992, 453, 454, 455, 456, 457] (by decide +kernel)
set_option maxRecDepth 20000 in
theorem in_wsL_law_r15 : ∀ w ∈ wsL_law_r15, w ∈ lw_tbl := z_mem [458, 459, 460, 461, 462, 463, 464, 465, 466, 467, 993, 994, 995, 996, 997, 998, 999, 468, 469, 470, 471, 141, 145, 149] (by decide +kernel)
set_option maxRecDepth 20000 in
theorem in_wsL_law_r16 : ∀ w ∈ wsL_law_r16, w ∈ lw_tbl := z_mem [472, 474, 2, 475, 1000, 1001, 1002, 1003, 1004, 1006, 33, 1007, 476, 477, 478, 479, 1008, 1009, 1010, 1011, 480, 481, 482, 483] (by decide +kernel)
set_option maxRecDepth 20000 in
theorem in_wsL_law_r17 : ∀ w ∈ wsL_law_r17, w ∈ lw_tbl := z_mem [490, 484, 485, 486, 487, 488, 489, 491, 492, 493, 494, 495, 497, 3, 498, 506, 507, 499, 500, 501, 502, 503, 504, 505] (by decide +kernel)
set_option maxRecDepth 20000 in
theorem in_wsL_law_r18 : ∀ w ∈ wsL_law_r18, w ∈ lw_tbl := z_mem [508, 509, 510, 511, 512, 513, 514, 515, 516, 517, 518, 519, 520, 1012, 1013, 1014, 1015, 1019, 852, 853, 1016, 1017, 1018, 1020] (by decide +kernel)
set_option maxRecDepth 20000 in
theorem in_wsL_law_r19 : ∀ w ∈ wsL_law_r19, w ∈ lw_tbl := z_mem [1022, 34, 1023, 1024, 1034, 1025, 1026, 1027, 1028, 1029, 1030, 1031, 1032, 1033, 1035, 1036, 1037, 521, 522, 523, 524, 525, 526, 527] (by decide +kernel)
set_option maxRecDepth 20000 in
theorem in_wsL_law_r20 : ∀ w ∈ wsL_law_r20, w ∈ lw_tbl := z_mem [528, 169, 173, 529, 530, 531, 532, 533, 534, 535, 536, 537, 150, 1038, 1039, 1040, 1041, 1042, 1044, 35, 1045, 1046, 1048, 36] (by decide +kernel)
set_option maxRecDepth 20000 in
theorem in_wsL_law_r21 : ∀ w ∈ wsL_law_r21, w ∈ lw_tbl := z_mem [1049, 1050, 1052, 37, 1053, 856, 1054, 1056, 38, 1057, 1058, 1060, 39, 1061, 1062, 1064, 40, 1065, 538, 539, 540, 541, 1066, 1067] (by decide +kernel)
set_option maxRecDepth 20000 in
theorem in_wsL_law_r22 : ∀ w ∈ wsL_law_r22, w ∈ lw_tbl := z_mem [1068, 1069, 1070, 1072, 41, 1073, 542, 543, 544, 545, 551, 546, 548, 4, 549, 550, 1074, 1075, 1076, 1077, 1086, 1078, 1080, 42] (by decide +kernel)
set_option maxRecDepth 20000 in
theorem in_wsL_law_r23 : ∀ w ∈ wsL_law_r23, w ∈ lw_tbl := z_mem [1081, 1082, 1084, 43, 1085, 552, 553, 554, 555, 556, 557, 558, 559, 560, 562, 5, 563, 564, 1087, 1088, 1089, 1090, 1091, 1093] (by decide +kernel)
set_option maxRecDepth 20000 in
theorem in_wsL_law_r24 : ∀ w ∈ wsL_law_r24, w ∈ lw_tbl := z_mem [44, 1094, 565, 566, 567, 568, 569, 1095, 1096, 1097, 1098, 570, 571, 572, 573, 574, 575, 576, 577, 578, 579, 580, 581, 1099] (by decide +kernel)
set_option maxRecDepth 20000 in
theorem in_wsL_law_r25 : ∀ w ∈ wsL_law_r25, w ∈ lw_tbl := z_mem [1100, 1101, 1102, 1103, 1105, 45, 1106, 582, 583, 584, 585, 586, 587, 588, 589, 1107, 1108, 1109, 1110, 1111, 1113, 46, 1114, 590] (by decide +kernel)
set_option maxRecDepth 20000 in
theorem in_wsL_law_r26 : ∀ w ∈ wsL_law_r26, w ∈ lw_tbl := z_mem [591, 592, 593, 594, 596, 6, 597, 598, 599, 600, 601, 602, 603, 604, 605, 606, 1115, 1116, 1117, 1118, 1119, 1121, 47, 1122] (by decide +kernel)
set_option maxRecDepth 20000 in
theorem in_wsL_law_r27 : ∀ w ∈ wsL_law_r27, w ∈ lw_tbl := z_mem [1123, 1125, 48, 1126, 607, 608, 609, 610, 611, 612, 613, 614, 199, 1127, 1128, 1129, 1130, 615, 616, 617, 618, 1131, 1132, 1133] (by decide +kernel)
set_option maxRecDepth 20000 in
theorem in_wsL_law_r28 : ∀ w ∈ wsL_law_r28, w ∈ lw_tbl := z_mem [1134, 619, 620, 621, 622, 623, 624, 625, 626, 147, 627, 629, 7, 630, 631, 1135, 1136, 1137, 1138, 1139, 1141, 49, 1142, 632] (by decide +kernel)
set_option maxRecDepth 20000 in
theorem in_wsL_law_r29 : ∀ w ∈ wsL_law_r29, w ∈ lw_tbl := z_mem [633, 634, 635, 636, 637, 638, 639, 1143, 1144, 1145, 1146, 1147, 1149, 50, 1150, 640, 641, 642, 643, 644, 645, 646, 647, 231] (by decide +kernel)
set_option maxRecDepth 20000 in
theorem in_wsL_law_r30 : ∀ w ∈ wsL_law_r30, w ∈ lw_tbl := z_mem [135, 143, 100, 232, 648, 649, 650, 651, 652, 653, 654, 655, 656, 97, 657, 659, 8, 660, 172, 661, 663, 9, 664, 665] (by decide +kernel)
set_option maxRecDepth 20000 in
theorem in_wsL_law_r31 : ∀ w ∈ wsL_law_r31, w ∈ lw_tbl := z_mem [666, 667, 668, 1151, 1152, 1153, 1154, 1155, 1157, 51, 1158, 1159, 1161, 52, 1162, 1163, 1165, 53, 1166, 1167, 1169, 54, 1170, 1171] (by decide +kernel)
set_option maxRecDepth 20000 in
theorem in_wsL_law_r32 : ∀ w ∈ wsL_law_r32, w ∈ lw_tbl := z_mem [1173, 55, 1174, 1175, 1176, 1177, 669, 670, 671, 672, 258, 673, 674, 675, 676, 134, 677, 678, 679, 680, 681, 683, 10, 684] (by decide +kernel)
set_option maxRecDepth 20000 in
theorem in_wsL_law_r33 : ∀ w ∈ wsL_law_r33, w ∈ lw_tbl := z_mem [685, 686, 688, 11, 689, 690, 692, 12, 693, 1178, 1179, 1180, 1181, 1182, 1184, 56, 1185, 1186, 1188, 57, 1189, 1190, 1192, 58] (by decide +kernel)
set_option maxRecDepth 20000 in
theorem in_wsL_law_r34 : ∀ w ∈ wsL_law_r34, w ∈ lw_tbl := z_mem [1193, 694, 695, 696, 697, 280, 282, 698, 699, 700, 701, 279, 281, 702, 704, 13, 705, 148, 706, 708, 707, 77, 709, 711] (by decide +kernel)
set_option maxRecDepth 20000 in
theorem in_wsL_law_r35 : ∀ w ∈ wsL_law_r35, w ∈ lw_tbl := z_mem [14, 712, 138, 713, 714, 716, 15, 717, 718, 719, 721, 16, 722, 723, 724, 725, 726, 727, 728, 729, 730, 731, 1194, 1195] (by decide +kernel)
set_option maxRecDepth 20000 in
theorem in_wsL_law_r36 : ∀ w ∈ wsL_law_r36, w ∈ lw_tbl := z_mem [1196, 1197, 1198, 1200, 59, 1201, 1202, 1204, 60, 1205, 1206, 1208, 61, 1209, 732, 733, 734, 735, 277, 736, 737, 738, 739, 1210] (by decide +kernel)
set_option maxRecDepth 20000 in
theorem in_wsL_law_r37 : ∀ w ∈ wsL_law_r37, w ∈ lw_tbl := z_mem [1211, 1212, 1213, 740, 741, 742, 743, 744, 746, 17, 747, 748, 749, 750, 751, 752, 1214, 1215, 1216, 1217, 753, 754, 755, 756] (by decide +kernel)
set_option maxRecDepth 20000 in
theorem in_wsL_law_r38 : ∀ w ∈ wsL_law_r38, w ∈ lw_tbl := z_mem [306, 1218, 1219, 1220, 1221, 757, 758, 759, 760, 761, 762, 763, 764, 765, 766, 767, 768, 1222, 1223, 1224, 1225, 769, 770, 771] (by decide +kernel)
set_option maxRecDepth 20000 in
theorem in_wsL_law_r39 : ∀ w ∈ wsL_law_r39, w ∈ lw_tbl := z_mem [772, 773, 1226, 1227, 1228, 1229, 774, 775, 776, 777, 308, 779, 778, 1230, 1231, 1232, 1233, 780, 781, 782, 783, 784, 786, 18] (by decide +kernel)
set_option maxRecDepth 20000 in
theorem in_wsL_law_r40 : ∀ w ∈ wsL_law_r40, w ∈ lw_tbl := z_mem [787, 788, 790, 19, 791, 328, 792, 794, 20, 795, 796, 798, 21, 799, 1234, 1235, 1236, 1237, 1238, 1240, 62, 1241, 835, 800] (by decide +kernel)
set_option maxRecDepth 20000 in
theorem in_wsL_law_r41 : ∀ w ∈ wsL_law_r41, w ∈ lw_tbl := z_mem [801, 802, 803, 804, 806, 22, 807, 808, 810, 23, 811, 1242, 1243, 1244, 1245, 812, 813, 814, 815, 1246, 1247, 1248, 1249, 816] (by decide +kernel)
set_option maxRecDepth 20000 in
theorem in_wsL_law_r42 : ∀ w ∈ wsL_law_r42, w ∈ lw_tbl := z_mem [817, 818, 819, 1250, 1251, 1252, 1253, 820, 821, 822, 823, 1254, 1255, 1256, 1257, 824, 825, 826, 827, 93, 95, 1258, 1259, 1260] (by decide +kernel)
set_option maxRecDepth 20000 in
theorem in_wsL_law_r43 : ∀ w ∈ wsL_law_r43, w ∈ lw_tbl := z_mem [1261] (by decide +kernel)
set_option maxRecDepth 20000 in
theorem in0_wsX80 : ∀ w ∈ wsX80, w ∈ lw_tbl := by decide +kernel
set_option maxRecDepth 20000 in
theorem in0_wsX90 : ∀ w ∈ wsX90, w ∈ lw_tbl := by decide +kernel
set_option maxRecDepth 20000 in
theorem in0_wsX30 : ∀ w ∈ wsX30, w ∈ lw_tbl := by decide +kernel
set_option maxRecDepth 20000 in
theorem in0_wsX10 : ∀ w ∈ wsX10, w ∈ lw_tbl := by decide +kernel
set_option maxRecDepth 20000 in
theorem in0_wsX00 : ∀ w ∈ wsX00, w ∈ lw_tbl := by decide +kernel
set_option maxRecDepth 20000 in
theorem in0_wsX40 : ∀ w ∈ wsX40, w ∈ lw_tbl := by decide +kernel
set_option maxRecDepth 20000 in
theorem in0_wsX70 : ∀ w ∈ wsX70, w ∈ lw_tbl := by decide +kernel
set_option maxRecDepth 20000 in
theorem in0_wsX50 : ∀ w ∈ wsX50, w ∈ lw_tbl := by decide +kernel
set_option maxRecDepth 20000 in
theorem in0_wsX20 : ∀ w ∈ wsX20, w ∈ lw_tbl := by decide +kernel
set_option maxRecDepth 20000 in
theorem in0_wsX60 : ∀ w ∈ wsX60, w ∈ lw_tbl := by decide +kernel
theorem wsL_law_in : ∀ w ∈ wsL_law, w ∈ lw_tbl := z_app (z_app (z_app (z_app (z_app (z_app (z_app (z_app (z_app (z_app (z_app (z_app in_wsL_law_r1 (z_app in_wsL_law_r2 (z_app in_wsL_law_r3 (z_app in_wsL_law_r4 (z_app in_wsL_law_r5 (z_app in_wsL_law_r6 (z_app in_wsL_law_r7 (z_app in_wsL_law_r8 (z_app in_wsL_law_r9 (z_app in_wsL_law_r10 (z_app in_wsL_law_r11 (z_app in_wsL_law_r12 (z_app in_wsL_law_r13 (z_app in_wsL_law_r14 (z_app in_wsL_law_r15 (z_app in_wsL_law_r16 (z_app in_wsL_law_r17 (z_app in_wsL_law_r18 (z_app in_wsL_law_r19 (z_app in_wsL_law_r20 (z_app in_wsL_law_r21 (z_app in_wsL_law_r22 (z_app in_wsL_law_r23 (z_app in_wsL_law_r24 (z_app in_wsL_law_r25 (z_app in_wsL_law_r26 (z_app in_wsL_law_r27 (z_app in_wsL_law_r28 (z_app in_wsL_law_r29 (z_app in_wsL_law_r30 (z_app in_wsL_law_r31 (z_app in_wsL_law_r32 (z_app in_wsL_law_r33 (z_app in_wsL_law_r34 (z_app in_wsL_law_r35 (z_app in_wsL_law_r36 (z_app in_wsL_law_r37 (z_app in_wsL_law_r38 (z_app in_wsL_law_r39 (z_app in_wsL_law_r40 (z_app in_wsL_law_r41 (z_app in_wsL_law_r42 in_wsL_law_r43)))))))))))))))))))))))))))))))))))))))))) in0_wsX80) in0_wsX90) in0_wsX30) in0_wsX10) in0_wsX00) in0_wsX40) in0_wsX70) in0_wsX50) in0_wsX20) in0_wsX60) (fun _ h => absurd h List.not_mem_nil)
theorem inlX0 : ∀ w ∈ wsX00, w ∈ wsL_law := fun _ h => List.mem_append_left _ (List.mem_append_left _ (List.mem_append_left _ (List.mem_append_left _ (List.mem_append_left _ (List.mem_append_left _ (List.mem_append_right _ h))))))
theorem inX0 : ∀ w ∈ wsX00, w ∈ lw_tbl := fun w h => wsL_law_in w (inlX0 w h)
theorem inlX1 : ∀ w ∈ wsX10, w ∈ wsL_law := fun _ h => List.mem_append_left _ (List.mem_append_left _ (List.mem_append_left _ (List.mem_append_left _ (List.mem_append_left _ (List.mem_append_left _ (List.mem_append_left _ (List.mem_append_right _ h)))))))
theorem inX1 : ∀ w ∈ wsX10, w ∈ lw_tbl := fun w h => wsL_law_in w (inlX1 w h)
theorem inlX2 : ∀ w ∈ wsX20, w ∈ wsL_law := fun _ h => List.mem_append_left _ (List.mem_append_left _ (List.mem_append_right _ h))
theorem inX2 : ∀ w ∈ wsX20, w ∈ lw_tbl := fun w h => wsL_law_in w (inlX2 w h)
theorem inlX3 : ∀ w ∈ wsX30, w ∈ wsL_law := fun _ h => List.mem_append_left _ (List.mem_append_left _ (List.mem_append_left _ (List.mem_append_left _ (List.mem_append_left _ (List.mem_append_left _ (List.mem_append_left _ (List.mem_append_left _ (List.mem_append_right _ h))))))))
theorem inX3 : ∀ w ∈ wsX30, w ∈ lw_tbl := fun w h => wsL_law_in w (inlX3 w h)
theorem inlX4 : ∀ w ∈ wsX40, w ∈ wsL_law := fun _ h => List.mem_append_left _ (List.mem_append_left _ (List.mem_append_left _ (List.mem_append_left _ (List.mem_append_left _ (List.mem_append_right _ h)))))
theorem inX4 : ∀ w ∈ wsX40, w ∈ lw_tbl := fun w h => wsL_law_in w (inlX4 w h)
theorem inlX5 : ∀ w ∈ wsX50, w ∈ wsL_law := fun _ h => List.mem_append_left _ (List.mem_append_left _ (List.mem_append_left _ (List.mem_append_right _ h)))
theorem inX5 : ∀ w ∈ wsX50, w ∈ lw_tbl := fun w h => wsL_law_in w (inlX5 w h)
theorem inlX6 : ∀ w ∈ wsX60, w ∈ wsL_law := fun _ h => List.mem_append_left _ (List.mem_append_right _ h)
theorem inX6 : ∀ w ∈ wsX60, w ∈ lw_tbl := fun w h => wsL_law_in w (inlX6 w h)
theorem inlX7 : ∀ w ∈ wsX70, w ∈ wsL_law := fun _ h => List.mem_append_left _ (List.mem_append_left _ (List.mem_append_left _ (List.mem_append_left _ (List.mem_append_right _ h))))
theorem inX7 : ∀ w ∈ wsX70, w ∈ lw_tbl := fun w h => wsL_law_in w (inlX7 w h)
theorem inlX8 : ∀ w ∈ wsX80, w ∈ wsL_law := fun _ h => List.mem_append_left _ (List.mem_append_left _ (List.mem_append_left _ (List.mem_append_left _ (List.mem_append_left _ (List.mem_append_left _ (List.mem_append_left _ (List.mem_append_left _ (List.mem_append_left _ (List.mem_append_left _ (List.mem_append_right _ h))))))))))
theorem inX8 : ∀ w ∈ wsX80, w ∈ lw_tbl := fun w h => wsL_law_in w (inlX8 w h)
theorem inlX9 : ∀ w ∈ wsX90, w ∈ wsL_law := fun _ h => List.mem_append_left _ (List.mem_append_left _ (List.mem_append_left _ (List.mem_append_left _ (List.mem_append_left _ (List.mem_append_left _ (List.mem_append_left _ (List.mem_append_left _ (List.mem_append_left _ (List.mem_append_right _ h)))))))))
theorem inX9 : ∀ w ∈ wsX90, w ∈ lw_tbl := fun w h => wsL_law_in w (inlX9 w h)
theorem inJ6 : ∀ w ∈ wsJ60, w ∈ lw_tbl := by decide +kernel
theorem inJ9 : ∀ w ∈ wsJ90, w ∈ lw_tbl := by decide +kernel
theorem inJ10 : ∀ w ∈ wsJ100, w ∈ lw_tbl := by decide +kernel
theorem inJ7 : ∀ w ∈ wsJ70, w ∈ lw_tbl := by decide +kernel
