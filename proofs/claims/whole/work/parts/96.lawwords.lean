/-! the words of the law among the words of the tables, by their places -/
theorem tblIn {ws : List Cond} (ps : List Nat) (hp : ws = ps.filterMap (fun i => lw_tbl[i]?)) : ∀ w ∈ ws, w ∈ lw_tbl := by
  intro w hw
  rw [hp] at hw
  obtain ⟨i, -, hi⟩ := List.mem_filterMap.mp hw
  exact List.mem_of_getElem? hi
set_option maxRecDepth 20000 in
theorem i_wsL_law0_r1 : ∀ w ∈ wsL_law0_r1, w ∈ lw_tbl := tblIn [75, 76, 59, 780, 781, 65, 1086, 1087, 77, 78, 79, 80, 81, 82, 83, 84, 60, 196, 144, 145, 62, 197, 128, 198] (by decide +kernel)
set_option maxRecDepth 20000 in
theorem i_wsL_law0_r2 : ∀ w ∈ wsL_law0_r2, w ∈ lw_tbl := tblIn [199, 164, 165, 63, 200, 180, 91, 61, 201, 182, 183, 64, 202, 85, 86, 87, 88, 129, 131, 132, 89, 134, 92, 93] (by decide +kernel)
set_option maxRecDepth 20000 in
theorem i_wsL_law0_r3 : ∀ w ∈ wsL_law0_r3, w ∈ lw_tbl := tblIn [94, 95, 101, 102, 146, 147, 148, 149, 150, 153, 154, 155, 152, 166, 167, 168, 169, 170, 171, 172, 181, 184, 185, 186] (by decide +kernel)
set_option maxRecDepth 20000 in
theorem i_wsL_law0_r4 : ∀ w ∈ wsL_law0_r4, w ∈ lw_tbl := tblIn [187, 188, 189, 782, 783, 784, 785, 787, 788, 789, 791, 793, 453, 454, 58, 455, 456, 457, 458, 459, 460, 461, 69, 529] (by decide +kernel)
set_option maxRecDepth 20000 in
theorem i_wsL_law0_r5 : ∀ w ∈ wsL_law0_r5, w ∈ lw_tbl := tblIn [530, 531, 532, 533, 535, 18, 536, 537, 538, 539, 540, 362, 363, 364, 365, 70, 366, 367, 369, 368, 71, 542, 295, 296] (by decide +kernel)
set_option maxRecDepth 20000 in
theorem i_wsL_law0_r6 : ∀ w ∈ wsL_law0_r6, w ∈ lw_tbl := tblIn [297, 543, 358, 359, 360, 96, 99, 103, 105, 107, 109, 544, 545, 546, 547, 548, 550, 19, 551, 552, 553, 554, 555, 824] (by decide +kernel)
set_option maxRecDepth 20000 in
theorem i_wsL_law0_r7 : ∀ w ∈ wsL_law0_r7, w ∈ lw_tbl := tblIn [825, 826, 827, 828, 829, 830, 831, 833, 24, 834, 786, 835, 837, 25, 838, 790, 839, 841, 26, 842, 843, 845, 27, 846] (by decide +kernel)
set_option maxRecDepth 20000 in
theorem i_wsL_law0_r8 : ∀ w ∈ wsL_law0_r8, w ∈ lw_tbl := tblIn [847, 848, 849, 820, 821, 822, 823, 556, 557, 558, 559, 560, 561, 562, 563, 584, 564, 566, 20, 567, 568, 72, 293, 286] (by decide +kernel)
set_option maxRecDepth 20000 in
theorem i_wsL_law0_r9 : ∀ w ∈ wsL_law0_r9, w ∈ lw_tbl := tblIn [287, 288, 586, 587, 588, 589, 850, 851, 852, 853, 858, 854, 856, 28, 857, 590, 591, 592, 593, 594, 595, 596, 597, 599] (by decide +kernel)
set_option maxRecDepth 20000 in
theorem i_wsL_law0_r10 : ∀ w ∈ wsL_law0_r10, w ∈ lw_tbl := tblIn [21, 600, 294, 859, 860, 861, 862, 863, 864, 865, 602, 603, 604, 605, 606, 607, 608, 306, 272, 273, 274, 275, 276, 73] (by decide +kernel)
set_option maxRecDepth 20000 in
theorem i_wsL_law0_r11 : ∀ w ∈ wsL_law0_r11, w ∈ lw_tbl := tblIn [277, 278, 279, 280, 609, 866, 867, 868, 869, 870, 871, 872, 610, 611, 612, 613, 614, 615, 616, 617, 618, 619, 621, 622] (by decide +kernel)
set_option maxRecDepth 20000 in
theorem i_wsL_law0_r12 : ∀ w ∈ wsL_law0_r12, w ∈ lw_tbl := tblIn [623, 624, 625, 371, 372, 373, 376, 377, 379, 8, 380, 325, 326, 285, 626, 383, 384, 385, 386, 387, 388, 389, 391, 392] (by decide +kernel)
set_option maxRecDepth 20000 in
theorem i_wsL_law0_r13 : ∀ w ∈ wsL_law0_r13, w ∈ lw_tbl := tblIn [393, 394, 396, 9, 397, 328, 329, 399, 401, 10, 402, 403, 405, 11, 406, 407, 344, 345, 346, 408, 410, 12, 411, 873] (by decide +kernel)
set_option maxRecDepth 20000 in
theorem i_wsL_law0_r14 : ∀ w ∈ wsL_law0_r14, w ∈ lw_tbl := tblIn [874, 875, 876, 877, 878, 879, 880, 882, 29, 883, 884, 886, 30, 887, 888, 889, 890, 891, 893, 31, 894, 895, 897, 32] (by decide +kernel)
set_option maxRecDepth 20000 in
theorem i_wsL_law0_r15 : ∀ w ∈ wsL_law0_r15, w ∈ lw_tbl := tblIn [898, 899, 901, 33, 902, 903, 905, 34, 906, 627, 628, 629, 630, 631, 632, 633, 426, 427, 428, 429, 312, 314, 5, 315] (by decide +kernel)
set_option maxRecDepth 20000 in
theorem i_wsL_law0_r16 : ∀ w ∈ wsL_law0_r16, w ∈ lw_tbl := tblIn [316, 317, 318, 319, 320, 321, 322, 323, 330, 331, 332, 333, 430, 431, 432, 433, 434, 435, 436, 437, 438, 907, 908, 909] (by decide +kernel)
set_option maxRecDepth 20000 in
theorem i_wsL_law0_r17 : ∀ w ∈ wsL_law0_r17, w ∈ lw_tbl := tblIn [910, 911, 913, 35, 914, 915, 917, 36, 918, 919, 921, 37, 922, 923, 924, 925, 634, 635, 636, 637, 638, 639, 640, 641] (by decide +kernel)
set_option maxRecDepth 20000 in
theorem i_wsL_law0_r18 : ∀ w ∈ wsL_law0_r18, w ∈ lw_tbl := tblIn [643, 74, 926, 927, 928, 929, 792, 218, 219, 220, 221, 930, 931, 932, 933, 222, 223, 224, 225, 226, 227, 228, 229, 230] (by decide +kernel)
set_option maxRecDepth 20000 in
theorem i_wsL_law0_r19 : ∀ w ∈ wsL_law0_r19, w ∈ lw_tbl := tblIn [232, 0, 233, 234, 235, 236, 237, 238, 240, 1, 241, 242, 243, 244, 245, 246, 247, 248, 249, 934, 935, 936, 937, 795] (by decide +kernel)
set_option maxRecDepth 20000 in
theorem i_wsL_law0_r20 : ∀ w ∈ wsL_law0_r20, w ∈ lw_tbl := tblIn [794, 938, 940, 38, 941, 942, 944, 39, 945, 946, 947, 948, 659, 660, 661, 662, 663, 664, 665, 666, 668, 22, 669, 670] (by decide +kernel)
set_option maxRecDepth 20000 in
theorem i_wsL_law0_r21 : ∀ w ∈ wsL_law0_r21, w ∈ lw_tbl := tblIn [671, 673, 675, 23, 676, 677, 678, 679, 680, 681, 682, 683, 684, 949, 950, 951, 952, 685, 686, 687, 688, 689, 690, 691] (by decide +kernel)
set_option maxRecDepth 20000 in
theorem i_wsL_law0_r22 : ∀ w ∈ wsL_law0_r22, w ∈ lw_tbl := tblIn [692, 693, 694, 695, 953, 954, 955, 956, 697, 698, 699, 700, 701, 702, 703, 704, 705, 706, 370, 421, 347, 348, 341, 342] (by decide +kernel)
set_option maxRecDepth 20000 in
theorem i_wsL_law0_r23 : ∀ w ∈ wsL_law0_r23, w ∈ lw_tbl := tblIn [957, 958, 959, 960, 961, 963, 40, 964, 965, 967, 41, 968, 708, 709, 710, 711, 712, 713, 714, 302, 304, 4, 305, 307] (by decide +kernel)
set_option maxRecDepth 20000 in
theorem i_wsL_law0_r24 : ∀ w ∈ wsL_law0_r24, w ∈ lw_tbl := tblIn [268, 269, 270, 271, 308, 309, 310, 311, 334, 969, 970, 971, 972, 973, 975, 42, 976, 977, 979, 43, 980, 981, 983, 44] (by decide +kernel)
set_option maxRecDepth 20000 in
theorem i_wsL_law0_r25 : ∀ w ∈ wsL_law0_r25, w ∈ lw_tbl := tblIn [984, 985, 987, 45, 988, 715, 716, 717, 718, 719, 720, 721, 335, 336, 337, 338, 989, 990, 991, 992, 993, 995, 46, 996] (by decide +kernel)
set_option maxRecDepth 20000 in
theorem i_wsL_law0_r26 : ∀ w ∈ wsL_law0_r26, w ∈ lw_tbl := tblIn [722, 723, 724, 725, 726, 727, 728, 343, 997, 998, 999, 1000, 1001, 1003, 47, 1004, 730, 731, 732, 733, 734, 735, 736, 255] (by decide +kernel)
set_option maxRecDepth 20000 in
theorem i_wsL_law0_r27 : ∀ w ∈ wsL_law0_r27, w ∈ lw_tbl := tblIn [257, 2, 258, 259, 260, 261, 262, 263, 264, 265, 266, 267, 281, 282, 283, 284, 1005, 1006, 1007, 1008, 1009, 1011, 48, 1012] (by decide +kernel)
set_option maxRecDepth 20000 in
theorem i_wsL_law0_r28 : ∀ w ∈ wsL_law0_r28, w ∈ lw_tbl := tblIn [1013, 1015, 49, 1016, 737, 738, 739, 740, 741, 742, 743, 1017, 1018, 1019, 1020, 744, 745, 746, 747, 748, 749, 750, 353, 355] (by decide +kernel)
set_option maxRecDepth 20000 in
theorem i_wsL_law0_r29 : ∀ w ∈ wsL_law0_r29, w ∈ lw_tbl := tblIn [7, 356, 357, 382, 412, 414, 13, 415, 1021, 1022, 1023, 1024, 1025, 1027, 50, 1028, 1029, 1031, 51, 1032, 1033, 1035, 52, 1036] (by decide +kernel)
set_option maxRecDepth 20000 in
theorem i_wsL_law0_r30 : ∀ w ∈ wsL_law0_r30, w ∈ lw_tbl := tblIn [751, 752, 753, 754, 755, 756, 757, 416, 418, 14, 419, 420, 1037, 1038, 1039, 1040, 1041, 1043, 53, 1044, 758, 759, 760, 761] (by decide +kernel)
set_option maxRecDepth 20000 in
theorem i_wsL_law0_r31 : ∀ w ∈ wsL_law0_r31, w ∈ lw_tbl := tblIn [762, 763, 764, 422, 424, 15, 425, 1045, 1046, 1047, 1048, 1049, 1051, 54, 1052, 766, 767, 768, 769, 770, 771, 772, 439, 441] (by decide +kernel)
set_option maxRecDepth 20000 in
theorem i_wsL_law0_r32 : ∀ w ∈ wsL_law0_r32, w ∈ lw_tbl := tblIn [16, 442, 1053, 1054, 1055, 1056, 773, 774, 775, 776, 777, 778, 779, 443, 444, 445, 446, 1057, 1058, 1059, 1060, 1061, 1063, 55] (by decide +kernel)
set_option maxRecDepth 20000 in
theorem i_wsL_law0_r33 : ∀ w ∈ wsL_law0_r33, w ∈ lw_tbl := tblIn [1064, 250, 251, 252, 253, 254, 289, 290, 291, 292, 298, 300, 3, 301, 349, 351, 6, 352, 447, 448, 449, 450, 451, 452] (by decide +kernel)
set_option maxRecDepth 20000 in
theorem i_wsL_law0_r34 : ∀ w ∈ wsL_law0_r34, w ∈ lw_tbl := tblIn [1065, 1066, 1067, 1068, 1069, 796, 1070, 1072, 56, 1073, 1074, 1075, 1077, 57, 1078, 1079, 1080, 1081, 1082, 1083, 1084, 1085] (by decide +kernel)
set_option maxRecDepth 20000 in
theorem i_wsX50 : ∀ w ∈ wsX50, w ∈ lw_tbl := tblIn [203, 205, 207, 209, 211, 213, 215] (by decide +kernel)
set_option maxRecDepth 20000 in
theorem i_wsX60 : ∀ w ∈ wsX60, w ∈ lw_tbl := tblIn [797, 799, 801, 803, 805, 807, 809, 811, 813, 815, 817] (by decide +kernel)
set_option maxRecDepth 20000 in
theorem i_wsX40 : ∀ w ∈ wsX40, w ∈ lw_tbl := tblIn [135, 137, 139, 141] (by decide +kernel)
set_option maxRecDepth 20000 in
theorem i_wsX10 : ∀ w ∈ wsX10, w ∈ lw_tbl := tblIn [157, 159, 161] (by decide +kernel)
set_option maxRecDepth 20000 in
theorem i_wsX20 : ∀ w ∈ wsX20, w ∈ lw_tbl := tblIn [173, 175, 177] (by decide +kernel)
set_option maxRecDepth 20000 in
theorem i_wsX30 : ∀ w ∈ wsX30, w ∈ lw_tbl := tblIn [111, 113, 115, 117, 119, 121, 123, 125] (by decide +kernel)
set_option maxRecDepth 20000 in
theorem i_wsX00 : ∀ w ∈ wsX00, w ∈ lw_tbl := tblIn [191, 193] (by decide +kernel)
