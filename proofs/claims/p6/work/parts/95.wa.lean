set_option maxRecDepth 100000 in
theorem wi_wsL_law0_r1 : ∀ w ∈ wsL_law0_r1, w ∈ lwx := mem_places [76, 77, 54, 960, 961, 55, 1197, 78, 79, 80, 81, 82, 83, 84, 86, 962, 963, 964, 965, 219, 968, 966, 969, 970] rfl
set_option maxRecDepth 100000 in
theorem wi_wsL_law0_r2 : ∀ w ∈ wsL_law0_r2, w ∈ lwx := mem_places [971, 972, 973, 974, 975, 976, 977, 978, 979, 980, 981, 261, 982, 983, 90, 91, 53, 92, 93, 94, 96, 97, 98, 99] rfl
set_option maxRecDepth 100000 in
theorem wi_wsL_law0_r3 : ∀ w ∈ wsL_law0_r3, w ∈ lwx := mem_places [100, 59, 172, 173, 60, 188, 189, 190, 192, 193, 194, 195, 196, 63, 262, 263, 65, 280, 281, 66, 197, 198, 199, 200] rfl
set_option maxRecDepth 100000 in
theorem wi_wsL_law0_r4 : ∀ w ∈ wsL_law0_r4, w ∈ lwx := mem_places [201, 64, 230, 227, 228, 203, 204, 205, 206, 207, 220, 221, 62, 222, 231, 223, 224, 61, 225, 226, 240, 244, 264, 265] rfl
set_option maxRecDepth 100000 in
theorem wi_wsL_law0_r5 : ∀ w ∈ wsL_law0_r5, w ∈ lwx := mem_places [266, 267, 270, 271, 269, 282, 283, 284, 285, 290, 291, 288, 292, 289, 293, 287, 306, 308, 1, 309, 310, 67, 1023, 1024] rfl
set_option maxRecDepth 100000 in
theorem wi_wsL_law0_r6 : ∀ w ∈ wsL_law0_r6, w ∈ lwx := mem_places [1025, 1026, 967, 1027, 1028, 1029, 1030, 1032, 21, 1033, 1034, 1036, 22, 1037, 1038, 1040, 23, 1041, 326, 327, 328, 329, 330, 331] rfl
set_option maxRecDepth 100000 in
theorem wi_wsL_law0_r7 : ∀ w ∈ wsL_law0_r7, w ∈ lwx := mem_places [332, 333, 334, 336, 2, 337, 342, 68, 338, 340, 3, 341, 358, 360, 4, 361, 245, 1042, 1043, 1044, 1045, 1046, 1048, 24] rfl
set_option maxRecDepth 100000 in
theorem wi_wsL_law0_r8 : ∀ w ∈ wsL_law0_r8, w ∈ lwx := mem_places [1049, 1050, 1052, 25, 1053, 362, 363, 364, 365, 366, 367, 368, 369, 370, 395, 70, 241, 242, 371, 372, 373, 374, 375, 376] rfl
set_option maxRecDepth 100000 in
theorem wi_wsL_law0_r9 : ∀ w ∈ wsL_law0_r9, w ∈ lwx := mem_places [69, 392, 393, 394, 411, 413, 414, 412, 417, 569, 418, 420, 421, 422, 423, 229, 237, 238, 424, 426, 5, 427, 428, 429] rfl
set_option maxRecDepth 100000 in
theorem wi_wsL_law0_r10 : ∀ w ∈ wsL_law0_r10, w ∈ lwx := mem_places [431, 6, 432, 433, 434, 435, 436, 208, 437, 438, 439, 440, 441, 442, 443, 233, 234, 444, 445, 446, 447, 448, 235, 236] rfl
set_option maxRecDepth 100000 in
theorem wi_wsL_law0_r11 : ∀ w ∈ wsL_law0_r11, w ∈ lwx := mem_places [449, 451, 7, 452, 453, 454, 455, 456, 457, 71, 458, 459, 460, 71, 461, 462, 464, 8, 465, 466, 467, 468, 469, 470] rfl
set_option maxRecDepth 100000 in
theorem wi_wsL_law0_r12 : ∀ w ∈ wsL_law0_r12, w ∈ lwx := mem_places [471, 472, 1199, 1216, 474, 475, 483, 500, 476, 478, 479, 477, 482, 480, 477, 481, 486, 488, 489, 487, 498, 499, 487, 490] rfl
set_option maxRecDepth 100000 in
theorem wi_wsL_law0_r13 : ∀ w ∈ wsL_law0_r13, w ∈ lwx := mem_places [491, 492, 493, 279, 494, 495, 496, 497, 305, 503, 505, 506, 507, 508, 509, 511, 9, 512, 513, 515, 10, 516, 517, 518] rfl
set_option maxRecDepth 100000 in
theorem wi_wsL_law0_r14 : ∀ w ∈ wsL_law0_r14, w ∈ lwx := mem_places [519, 520, 537, 536, 535, 73, 209, 521, 522, 72, 523, 524, 525, 526, 527, 528, 530, 531, 532, 533, 534, 538, 540, 11] rfl
set_option maxRecDepth 100000 in
theorem wi_wsL_law0_r15 : ∀ w ∈ wsL_law0_r15, w ∈ lwx := mem_places [541, 542, 543, 544, 545, 546, 547, 549, 12, 550, 551, 552, 553, 554, 555, 557, 558, 559, 560, 561, 562, 563, 564, 565] rfl
set_option maxRecDepth 100000 in
theorem wi_wsL_law0_r16 : ∀ w ∈ wsL_law0_r16, w ∈ lwx := mem_places [566, 567, 568, 1219, 1222, 570, 1200, 1218, 572, 573, 574, 575, 576, 577, 578, 579, 580, 581, 582, 584, 585, 583, 594, 583] rfl
set_option maxRecDepth 100000 in
theorem wi_wsL_law0_r17 : ∀ w ∈ wsL_law0_r17, w ∈ lwx := mem_places [586, 587, 588, 589, 590, 591, 592, 593, 1221, 1224, 415, 416, 595, 597, 598, 596, 601, 599, 600, 602, 604, 605, 603, 608] rfl
set_option maxRecDepth 100000 in
theorem wi_wsL_law0_r18 : ∀ w ∈ wsL_law0_r18, w ∈ lwx := mem_places [609, 1201, 558, 1202, 610, 611, 612, 260, 1203, 1204, 606, 607, 613, 614, 616, 617, 615, 630, 618, 615, 619, 620, 621, 622] rfl
set_option maxRecDepth 100000 in
theorem wi_wsL_law0_r19 : ∀ w ∈ wsL_law0_r19, w ∈ lwx := mem_places [624, 13, 625, 626, 628, 14, 629, 631, 633, 634, 632, 637, 638, 639, 641, 640, 642, 643, 644, 645, 640, 651, 646, 647] rfl
set_option maxRecDepth 100000 in
theorem wi_wsL_law0_r20 : ∀ w ∈ wsL_law0_r20, w ∈ lwx := mem_places [648, 649, 650, 635, 636, 652, 654, 655, 653, 658, 656, 657, 659, 661, 662, 660, 665, 663, 664, 666, 668, 669, 667, 672] rfl
set_option maxRecDepth 100000 in
theorem wi_wsL_law0_r21 : ∀ w ∈ wsL_law0_r21, w ∈ lwx := mem_places [670, 671, 673, 675, 676, 674, 679, 680, 682, 683, 681, 688, 684, 681, 685, 686, 687, 677, 678, 689, 691, 692, 690, 695] rfl
set_option maxRecDepth 100000 in
theorem wi_wsL_law0_r22 : ∀ w ∈ wsL_law0_r22, w ∈ lwx := mem_places [696, 699, 693, 694, 700, 702, 703, 701, 717, 704, 701, 705, 706, 707, 708, 710, 15, 711, 712, 713, 714, 715, 716, 1205] rfl
set_option maxRecDepth 100000 in
theorem wi_wsL_law0_r23 : ∀ w ∈ wsL_law0_r23, w ∈ lwx := mem_places [718, 720, 721, 719, 724, 722, 723, 725, 727, 728, 726, 733, 729, 726, 730, 731, 732, 734, 736, 737, 735, 740, 738, 739] rfl
set_option maxRecDepth 100000 in
theorem wi_wsL_law0_r24 : ∀ w ∈ wsL_law0_r24, w ∈ lwx := mem_places [741, 743, 744, 742, 747, 745, 746, 748, 750, 751, 749, 754, 756, 1206, 1217, 758, 759, 1220, 1223, 752, 753, 760, 762, 761] rfl
set_option maxRecDepth 100000 in
theorem wi_wsL_law0_r25 : ∀ w ∈ wsL_law0_r25, w ∈ lwx := mem_places [763, 764, 765, 768, 766, 761, 767, 769, 771, 770, 772, 773, 774, 777, 775, 770, 776, 778, 780, 781, 779, 784, 782, 783] rfl
set_option maxRecDepth 100000 in
theorem wi_wsL_law0_r26 : ∀ w ∈ wsL_law0_r26, w ∈ lwx := mem_places [785, 787, 788, 786, 791, 789, 790, 1054, 1055, 1056, 1057, 1095, 1058, 1060, 26, 1061, 1062, 1064, 27, 1065, 1066, 1068, 28, 1069] rfl
set_option maxRecDepth 100000 in
theorem wi_wsL_law0_r27 : ∀ w ∈ wsL_law0_r27, w ∈ lwx := mem_places [1070, 1072, 29, 1073, 1074, 1076, 30, 1077, 1078, 1079, 1080, 1081, 1082, 1083, 1084, 1085, 1086, 1087, 1089, 31, 1090, 1091, 1093, 32] rfl
set_option maxRecDepth 100000 in
theorem wi_wsL_law0_r28 : ∀ w ∈ wsL_law0_r28, w ∈ lwx := mem_places [1094, 1096, 1098, 33, 1099, 1100, 1102, 34, 1103, 1104, 1106, 35, 1107, 1108, 1110, 36, 1111, 1112, 1114, 37, 1115, 1116, 1118, 38] rfl
set_option maxRecDepth 100000 in
theorem wi_wsL_law0_r29 : ∀ w ∈ wsL_law0_r29, w ∈ lwx := mem_places [1119, 1120, 1121, 1123, 39, 1124, 1125, 1127, 40, 1128, 1129, 1131, 41, 1132, 1133, 1135, 42, 1136, 1137, 1139, 43, 1140, 1141, 1143] rfl
set_option maxRecDepth 100000 in
theorem wi_wsL_law0_r30 : ∀ w ∈ wsL_law0_r30, w ∈ lwx := mem_places [44, 1144, 1145, 1147, 45, 1148, 1149, 1151, 46, 1152, 1153, 1155, 47, 1156, 1157, 1159, 48, 1160, 1161, 1163, 49, 1164, 1165, 1167] rfl
set_option maxRecDepth 100000 in
theorem wi_wsL_law0_r31 : ∀ w ∈ wsL_law0_r31, w ∈ lwx := mem_places [50, 1168, 1169, 1171, 51, 1172, 1173, 1175, 52, 1176, 792, 793, 794, 795, 796, 797, 798, 799, 800, 801, 280, 804, 805, 806] rfl
set_option maxRecDepth 100000 in
theorem wi_wsL_law0_r32 : ∀ w ∈ wsL_law0_r32, w ∈ lwx := mem_places [807, 809, 810, 811, 812, 817, 818, 819, 820, 821, 822, 823, 813, 815, 16, 816, 824, 825, 826, 1177, 1178, 1179, 1180, 827] rfl
set_option maxRecDepth 100000 in
theorem wi_wsL_law0_r33 : ∀ w ∈ wsL_law0_r33, w ∈ lwx := mem_places [828, 829, 830, 831, 832, 833, 834, 835, 74, 836, 837, 838, 844, 846, 232, 847, 839, 840, 841, 842, 843, 1181, 1182, 1183] rfl
set_option maxRecDepth 100000 in
theorem wi_wsL_law0_r34 : ∀ w ∈ wsL_law0_r34, w ∈ lwx := mem_places [1184, 1019, 1020, 1021, 1022, 859, 860, 861, 862, 863, 864, 865, 866, 867, 868, 834, 870, 871, 872, 873, 875, 876, 877, 878] rfl
set_option maxRecDepth 100000 in
theorem wi_wsL_law0_r35 : ∀ w ∈ wsL_law0_r35, w ∈ lwx := mem_places [884, 845, 879, 880, 881, 882, 883, 887, 888, 889, 890, 891, 892, 893, 894, 896, 17, 897, 898, 901, 902, 903, 904, 905] rfl
set_option maxRecDepth 100000 in
theorem wi_wsL_law0_r36 : ∀ w ∈ wsL_law0_r36, w ∈ lwx := mem_places [906, 907, 908, 909, 910, 911, 1185, 1186, 1187, 1188, 912, 913, 914, 915, 916, 917, 918, 919, 921, 75, 239, 937, 938, 939] rfl
set_option maxRecDepth 100000 in
theorem wi_wsL_law0_r37 : ∀ w ∈ wsL_law0_r37, w ∈ lwx := mem_places [1189, 1190, 1191, 1192, 940, 941, 942, 943, 944, 945, 946, 947, 949, 18, 950, 951, 953, 19, 954, 243, 955, 957, 20, 958] rfl
set_option maxRecDepth 100000 in
theorem wi_wsL_law0_r38 : ∀ w ∈ wsL_law0_r38, w ∈ lwx := mem_places [1193, 1194, 1195, 1196] rfl
theorem wi_wsX70 : ∀ w ∈ wsX70, w ∈ lwx := fun w h => List.mem_append_left _ ((by decide +kernel : ∀ w ∈ wsX70, w ∈ lw_tbl) w h)
theorem wi_wsX80 : ∀ w ∈ wsX80, w ∈ lwx := fun w h => List.mem_append_left _ ((by decide +kernel : ∀ w ∈ wsX80, w ∈ lw_tbl) w h)
theorem wi_wsJxde1cd0 : ∀ w ∈ wsJxde1cd0, w ∈ lwx := fun w h => List.mem_append_left _ ((by decide +kernel : ∀ w ∈ wsJxde1cd0, w ∈ lw_tbl) w h)
theorem wi_wsX20 : ∀ w ∈ wsX20, w ∈ lwx := fun w h => List.mem_append_left _ ((by decide +kernel : ∀ w ∈ wsX20, w ∈ lw_tbl) w h)
theorem wi_wsX40 : ∀ w ∈ wsX40, w ∈ lwx := fun w h => List.mem_append_left _ ((by decide +kernel : ∀ w ∈ wsX40, w ∈ lw_tbl) w h)
theorem wi_wsX60 : ∀ w ∈ wsX60, w ∈ lwx := fun w h => List.mem_append_left _ ((by decide +kernel : ∀ w ∈ wsX60, w ∈ lw_tbl) w h)
theorem wi_wsX50 : ∀ w ∈ wsX50, w ∈ lwx := fun w h => List.mem_append_left _ ((by decide +kernel : ∀ w ∈ wsX50, w ∈ lw_tbl) w h)
theorem wi_wsX10 : ∀ w ∈ wsX10, w ∈ lwx := fun w h => List.mem_append_left _ ((by decide +kernel : ∀ w ∈ wsX10, w ∈ lw_tbl) w h)
theorem wi_wsJx3273f0 : ∀ w ∈ wsJx3273f0, w ∈ lwx := fun w h => List.mem_append_left _ ((by decide +kernel : ∀ w ∈ wsJx3273f0, w ∈ lw_tbl) w h)
theorem wsL_law_in0 : ∀ w ∈ wsL_law0, w ∈ lwx := fun w h => (List.mem_append.mp h).elim (fun h => (List.mem_append.mp h).elim (fun h => (List.mem_append.mp h).elim (fun h => (List.mem_append.mp h).elim (fun h => (List.mem_append.mp h).elim (fun h => (List.mem_append.mp h).elim (fun h => (List.mem_append.mp h).elim (fun h => (List.mem_append.mp h).elim (fun h => (List.mem_append.mp h).elim (fun h => (List.mem_append.mp h).elim (fun h => (List.mem_append.mp h).elim (wi_wsL_law0_r1 w) (fun h => (List.mem_append.mp h).elim (wi_wsL_law0_r2 w) (fun h => (List.mem_append.mp h).elim (wi_wsL_law0_r3 w) (fun h => (List.mem_append.mp h).elim (wi_wsL_law0_r4 w) (fun h => (List.mem_append.mp h).elim (wi_wsL_law0_r5 w) (fun h => (List.mem_append.mp h).elim (wi_wsL_law0_r6 w) (fun h => (List.mem_append.mp h).elim (wi_wsL_law0_r7 w) (fun h => (List.mem_append.mp h).elim (wi_wsL_law0_r8 w) (fun h => (List.mem_append.mp h).elim (wi_wsL_law0_r9 w) (fun h => (List.mem_append.mp h).elim (wi_wsL_law0_r10 w) (fun h => (List.mem_append.mp h).elim (wi_wsL_law0_r11 w) (fun h => (List.mem_append.mp h).elim (wi_wsL_law0_r12 w) (fun h => (List.mem_append.mp h).elim (wi_wsL_law0_r13 w) (fun h => (List.mem_append.mp h).elim (wi_wsL_law0_r14 w) (fun h => (List.mem_append.mp h).elim (wi_wsL_law0_r15 w) (fun h => (List.mem_append.mp h).elim (wi_wsL_law0_r16 w) (fun h => (List.mem_append.mp h).elim (wi_wsL_law0_r17 w) (fun h => (List.mem_append.mp h).elim (wi_wsL_law0_r18 w) (fun h => (List.mem_append.mp h).elim (wi_wsL_law0_r19 w) (fun h => (List.mem_append.mp h).elim (wi_wsL_law0_r20 w) (fun h => (List.mem_append.mp h).elim (wi_wsL_law0_r21 w) (fun h => (List.mem_append.mp h).elim (wi_wsL_law0_r22 w) (fun h => (List.mem_append.mp h).elim (wi_wsL_law0_r23 w) (fun h => (List.mem_append.mp h).elim (wi_wsL_law0_r24 w) (fun h => (List.mem_append.mp h).elim (wi_wsL_law0_r25 w) (fun h => (List.mem_append.mp h).elim (wi_wsL_law0_r26 w) (fun h => (List.mem_append.mp h).elim (wi_wsL_law0_r27 w) (fun h => (List.mem_append.mp h).elim (wi_wsL_law0_r28 w) (fun h => (List.mem_append.mp h).elim (wi_wsL_law0_r29 w) (fun h => (List.mem_append.mp h).elim (wi_wsL_law0_r30 w) (fun h => (List.mem_append.mp h).elim (wi_wsL_law0_r31 w) (fun h => (List.mem_append.mp h).elim (wi_wsL_law0_r32 w) (fun h => (List.mem_append.mp h).elim (wi_wsL_law0_r33 w) (fun h => (List.mem_append.mp h).elim (wi_wsL_law0_r34 w) (fun h => (List.mem_append.mp h).elim (wi_wsL_law0_r35 w) (fun h => (List.mem_append.mp h).elim (wi_wsL_law0_r36 w) (fun h => (List.mem_append.mp h).elim (wi_wsL_law0_r37 w) (fun h => wi_wsL_law0_r38 w h)))))))))))))))))))))))))))))))))))))) (wi_wsX70 w)) (wi_wsX80 w)) (wi_wsJxde1cd0 w)) (wi_wsX20 w)) (wi_wsX40 w)) (wi_wsX60 w)) (wi_wsX50 w)) (wi_wsX10 w)) (wi_wsJx3273f0 w)) (fun h => absurd h List.not_mem_nil)
