theorem wl_mem {big : List Cond} (ws : List Cond) (ps : List Nat) (hp : ps.filterMap (fun i => big[i]?) = ws) : ∀ w ∈ ws, w ∈ big := by
  intro w hw
  rw [← hp] at hw
  obtain ⟨i, -, hi⟩ := List.mem_filterMap.mp hw
  first | exact List.mem_of_getElem? hi | exact List.getElem?_mem hi
set_option maxRecDepth 20000 in
set_option maxHeartbeats 4000000 in
theorem wl_1 : ∀ w ∈ wsL_law_r1, w ∈ lw_tbl := wl_mem _ [44, 45, 30, 662, 663, 40, 46, 47, 48, 49, 50, 51, 52, 53, 31, 242, 76, 77, 32, 243, 103, 104, 33, 244] rfl
set_option maxRecDepth 20000 in
set_option maxHeartbeats 4000000 in
theorem wl_2 : ∀ w ∈ wsL_law_r2, w ∈ lw_tbl := wl_mem _ [126, 127, 34, 245, 146, 147, 35, 246, 183, 184, 36, 247, 194, 195, 37, 248, 213, 214, 38, 249, 227, 228, 39, 250] rfl
set_option maxRecDepth 20000 in
set_option maxHeartbeats 4000000 in
theorem wl_3 : ∀ w ∈ wsL_law_r3, w ∈ lw_tbl := wl_mem _ [102, 251, 252, 253, 254, 55, 56, 57, 58, 60, 63, 65, 79, 80, 81, 82, 84, 86, 88, 90, 106, 107, 108, 109] rfl
set_option maxRecDepth 20000 in
set_option maxHeartbeats 4000000 in
theorem wl_4 : ∀ w ∈ wsL_law_r4, w ∈ lw_tbl := wl_mem _ [111, 113, 115, 129, 130, 131, 132, 135, 145, 137, 149, 150, 151, 152, 154, 156, 157, 159, 160, 161, 162, 163, 186, 187] rfl
set_option maxRecDepth 20000 in
set_option maxHeartbeats 4000000 in
theorem wl_5 : ∀ w ∈ wsL_law_r5, w ∈ lw_tbl := wl_mem _ [188, 189, 197, 198, 199, 200, 202, 204, 216, 217, 218, 219, 221, 230, 231, 232, 233, 235, 664, 665, 666, 667, 669, 671] rfl
set_option maxRecDepth 20000 in
set_option maxHeartbeats 4000000 in
theorem wl_6 : ∀ w ∈ wsL_law_r6, w ∈ lw_tbl := wl_mem _ [672, 673, 675, 676, 677, 680, 681, 682, 683, 685, 765, 686, 689, 690, 691, 692, 694, 695, 696, 697, 698, 699, 282, 283] rfl
set_option maxRecDepth 20000 in
set_option maxHeartbeats 4000000 in
theorem wl_7 : ∀ w ∈ wsL_law_r7, w ∈ lw_tbl := wl_mem _ [284, 285, 286, 287, 288, 289, 290, 291, 292, 293, 294, 295, 766, 767, 768, 769, 670, 770, 771, 772, 296, 297, 298, 299] rfl
set_option maxRecDepth 20000 in
set_option maxHeartbeats 4000000 in
theorem wl_8 : ∀ w ∈ wsL_law_r8, w ∈ lw_tbl := wl_mem _ [300, 302, 0, 303, 304, 305, 306, 307, 308, 309, 310, 311, 773, 774, 775, 776, 777, 779, 15, 780, 781, 783, 16, 784] rfl
set_option maxRecDepth 20000 in
set_option maxHeartbeats 4000000 in
theorem wl_9 : ∀ w ∈ wsL_law_r9, w ∈ lw_tbl := wl_mem _ [785, 786, 787, 312, 313, 314, 315, 316, 318, 1, 319, 320, 321, 322, 323, 324, 325, 326, 327, 328, 329, 330, 331, 332] rfl
set_option maxRecDepth 20000 in
set_option maxHeartbeats 4000000 in
theorem wl_10 : ∀ w ∈ wsL_law_r10, w ∈ lw_tbl := wl_mem _ [333, 334, 335, 336, 337, 338, 339, 788, 789, 790, 791, 792, 794, 17, 795, 679, 796, 798, 18, 799, 800, 802, 19, 803] rfl
set_option maxRecDepth 20000 in
set_option maxHeartbeats 4000000 in
theorem wl_11 : ∀ w ∈ wsL_law_r11, w ∈ lw_tbl := wl_mem _ [678, 674, 340, 341, 342, 343, 804, 805, 806, 807, 344, 345, 346, 347, 808, 809, 810, 811, 348, 349, 350, 351, 812, 813] rfl
set_option maxRecDepth 20000 in
set_option maxHeartbeats 4000000 in
theorem wl_12 : ∀ w ∈ wsL_law_r12, w ∈ lw_tbl := wl_mem _ [814, 815, 352, 353, 354, 355, 356, 357, 358, 359, 360, 361, 362, 363, 364, 365, 366, 816, 817, 818, 819, 820, 821, 822] rfl
set_option maxRecDepth 20000 in
set_option maxHeartbeats 4000000 in
theorem wl_13 : ∀ w ∈ wsL_law_r13, w ∈ lw_tbl := wl_mem _ [367, 368, 369, 370, 371, 373, 2, 374, 823, 824, 825, 826, 375, 376, 377, 378, 379, 380, 381, 382, 383, 384, 385, 386] rfl
set_option maxRecDepth 20000 in
set_option maxHeartbeats 4000000 in
theorem wl_14 : ∀ w ∈ wsL_law_r14, w ∈ lw_tbl := wl_mem _ [387, 388, 389, 827, 828, 829, 830, 831, 833, 20, 834, 668, 390, 391, 392, 393, 394, 395, 396, 397, 398, 399, 41, 400] rfl
set_option maxRecDepth 20000 in
set_option maxHeartbeats 4000000 in
theorem wl_15 : ∀ w ∈ wsL_law_r15, w ∈ lw_tbl := wl_mem _ [401, 402, 403, 835, 836, 837, 838, 839, 841, 21, 842, 404, 405, 406, 407, 408, 409, 410, 411, 412, 413, 414, 415, 416] rfl
set_option maxRecDepth 20000 in
set_option maxHeartbeats 4000000 in
theorem wl_16 : ∀ w ∈ wsL_law_r16, w ∈ lw_tbl := wl_mem _ [843, 844, 845, 846, 417, 418, 419, 420, 847, 848, 849, 850, 421, 422, 423, 424, 425, 427, 3, 428, 429, 430, 431, 432] rfl
set_option maxRecDepth 20000 in
set_option maxHeartbeats 4000000 in
theorem wl_17 : ∀ w ∈ wsL_law_r17, w ∈ lw_tbl := wl_mem _ [433, 435, 4, 436, 437, 439, 5, 440, 441, 443, 6, 444, 851, 852, 853, 854, 855, 857, 22, 858, 445, 446, 447, 448] rfl
set_option maxRecDepth 20000 in
set_option maxHeartbeats 4000000 in
theorem wl_18 : ∀ w ∈ wsL_law_r18, w ∈ lw_tbl := wl_mem _ [449, 450, 451, 452, 461, 453, 455, 7, 456, 457, 459, 8, 460, 462, 464, 9, 465, 466, 468, 10, 469, 470, 472, 11] rfl
set_option maxRecDepth 20000 in
set_option maxHeartbeats 4000000 in
theorem wl_19 : ∀ w ∈ wsL_law_r19, w ∈ lw_tbl := wl_mem _ [473, 859, 860, 861, 862, 687, 688, 693, 863, 865, 23, 866, 867, 869, 24, 870, 871, 873, 25, 874, 474, 475, 476, 477] rfl
set_option maxRecDepth 20000 in
set_option maxHeartbeats 4000000 in
theorem wl_20 : ∀ w ∈ wsL_law_r20, w ∈ lw_tbl := wl_mem _ [875, 876, 877, 878, 478, 479, 480, 481, 879, 880, 881, 882, 482, 483, 484, 485, 486, 487, 488, 489, 883, 884, 885, 886] rfl
set_option maxRecDepth 20000 in
set_option maxHeartbeats 4000000 in
theorem wl_21 : ∀ w ∈ wsL_law_r21, w ∈ lw_tbl := wl_mem _ [490, 491, 492, 493, 494, 495, 496, 497, 498, 499, 887, 888, 889, 890, 684, 891, 893, 26, 894, 895, 896, 897, 500, 501] rfl
set_option maxRecDepth 20000 in
set_option maxHeartbeats 4000000 in
theorem wl_22 : ∀ w ∈ wsL_law_r22, w ∈ lw_tbl := wl_mem _ [502, 503, 898, 899, 900, 901, 504, 505, 506, 507, 508, 509, 510, 511, 902, 903, 904, 905, 512, 513, 514, 515, 516, 517] rfl
set_option maxRecDepth 20000 in
set_option maxHeartbeats 4000000 in
theorem wl_23 : ∀ w ∈ wsL_law_r23, w ∈ lw_tbl := wl_mem _ [518, 519, 906, 907, 908, 909, 910, 912, 27, 913, 520, 521, 522, 523, 524, 525, 526, 914, 915, 916, 917, 527, 528, 529] rfl
set_option maxRecDepth 20000 in
set_option maxHeartbeats 4000000 in
theorem wl_24 : ∀ w ∈ wsL_law_r24, w ∈ lw_tbl := wl_mem _ [530, 918, 919, 920, 921, 531, 532, 533, 534, 535, 536, 537, 538, 540, 541, 922, 923, 924, 925, 542, 543, 544, 545, 546] rfl
set_option maxRecDepth 20000 in
set_option maxHeartbeats 4000000 in
theorem wl_25 : ∀ w ∈ wsL_law_r25, w ∈ lw_tbl := wl_mem _ [547, 548, 549, 926, 927, 928, 929, 550, 551, 552, 553, 554, 555, 556, 557, 559, 12, 560, 561, 562, 563, 564, 565, 930] rfl
set_option maxRecDepth 20000 in
set_option maxHeartbeats 4000000 in
theorem wl_26 : ∀ w ∈ wsL_law_r26, w ∈ lw_tbl := wl_mem _ [931, 932, 933, 934, 936, 28, 937, 566, 567, 568, 569, 938, 939, 940, 941, 570, 571, 572, 573, 942, 943, 944, 945, 574] rfl
set_option maxRecDepth 20000 in
set_option maxHeartbeats 4000000 in
theorem wl_27 : ∀ w ∈ wsL_law_r27, w ∈ lw_tbl := wl_mem _ [575, 576, 577, 946, 947, 948, 949, 578, 579, 580, 581, 582, 583, 584, 585, 586, 587, 588, 950, 951, 952, 953, 954, 955] rfl
set_option maxRecDepth 20000 in
set_option maxHeartbeats 4000000 in
theorem wl_28 : ∀ w ∈ wsL_law_r28, w ∈ lw_tbl := wl_mem _ [956, 589, 590, 591, 592, 593, 594, 595, 596, 597, 598, 599, 600, 601, 602, 42, 603, 957, 958, 959, 960, 604, 605, 606] rfl
set_option maxRecDepth 20000 in
set_option maxHeartbeats 4000000 in
theorem wl_29 : ∀ w ∈ wsL_law_r29, w ∈ lw_tbl := wl_mem _ [607, 608, 609, 610, 611, 961, 962, 963, 964, 612, 613, 614, 615, 965, 966, 967, 968, 616, 617, 618, 619, 620, 621, 622] rfl
set_option maxRecDepth 20000 in
set_option maxHeartbeats 4000000 in
theorem wl_30 : ∀ w ∈ wsL_law_r30, w ∈ lw_tbl := wl_mem _ [623, 624, 625, 626, 627, 628, 630, 629, 43, 969, 970, 971, 972, 631, 632, 633, 634, 973, 974, 975, 976, 635, 636, 637] rfl
set_option maxRecDepth 20000 in
set_option maxHeartbeats 4000000 in
theorem wl_31 : ∀ w ∈ wsL_law_r31, w ∈ lw_tbl := wl_mem _ [638, 639, 977, 978, 979, 980, 640, 641, 642, 643, 981, 982, 983, 984, 644, 645, 646, 647, 985, 986, 987, 988, 648, 649] rfl
set_option maxRecDepth 20000 in
set_option maxHeartbeats 4000000 in
theorem wl_32 : ∀ w ∈ wsL_law_r32, w ∈ lw_tbl := wl_mem _ [650, 651, 652, 657, 653, 655, 13, 656, 658, 660, 14, 661, 989, 990, 991, 992, 993, 994] rfl
set_option maxRecDepth 20000 in
set_option maxHeartbeats 4000000 in
theorem inX9 : ∀ w ∈ wsX90, w ∈ lw_tbl := wl_mem _ [255, 257, 259, 261, 263, 265, 267, 269, 271, 273, 275, 277, 279] rfl
set_option maxRecDepth 20000 in
set_option maxHeartbeats 4000000 in
theorem inX10 : ∀ w ∈ wsX100, w ∈ lw_tbl := wl_mem _ [700, 702, 704, 706, 708, 710, 712, 714, 716, 718, 720, 722, 724, 726, 728, 730, 732, 734, 736, 738, 740, 742, 744, 746, 748, 750, 752, 754, 756, 758, 760, 762] rfl
set_option maxRecDepth 20000 in
set_option maxHeartbeats 4000000 in
theorem inX2 : ∀ w ∈ wsX20, w ∈ lw_tbl := wl_mem _ [67, 69, 71, 73] rfl
set_option maxRecDepth 20000 in
set_option maxHeartbeats 4000000 in
theorem inX5 : ∀ w ∈ wsX50, w ∈ lw_tbl := wl_mem _ [91, 93, 95, 97, 99] rfl
set_option maxRecDepth 20000 in
set_option maxHeartbeats 4000000 in
theorem inX8 : ∀ w ∈ wsX80, w ∈ lw_tbl := wl_mem _ [117, 119, 121, 123] rfl
set_option maxRecDepth 20000 in
set_option maxHeartbeats 4000000 in
theorem inX1 : ∀ w ∈ wsX10, w ∈ lw_tbl := wl_mem _ [138, 140, 142] rfl
set_option maxRecDepth 20000 in
set_option maxHeartbeats 4000000 in
theorem inX6 : ∀ w ∈ wsX60, w ∈ lw_tbl := wl_mem _ [164, 166, 168, 170, 172, 174, 176, 178, 180] rfl
set_option maxRecDepth 20000 in
set_option maxHeartbeats 4000000 in
theorem inX0 : ∀ w ∈ wsX00, w ∈ lw_tbl := wl_mem _ [191] rfl
set_option maxRecDepth 20000 in
set_option maxHeartbeats 4000000 in
theorem inX3 : ∀ w ∈ wsX30, w ∈ lw_tbl := wl_mem _ [206, 208, 210] rfl
set_option maxRecDepth 20000 in
set_option maxHeartbeats 4000000 in
theorem inX7 : ∀ w ∈ wsX70, w ∈ lw_tbl := wl_mem _ [222, 224] rfl
set_option maxRecDepth 20000 in
set_option maxHeartbeats 4000000 in
theorem inX4 : ∀ w ∈ wsX40, w ∈ lw_tbl := wl_mem _ [237, 239] rfl
set_option maxRecDepth 20000 in
theorem wsL_law_in : ∀ w ∈ wsL_law, w ∈ lw_tbl := fun w => (fun h => (List.mem_append.mp h).elim (fun h => (List.mem_append.mp h).elim (fun h => (List.mem_append.mp h).elim (fun h => (List.mem_append.mp h).elim (fun h => (List.mem_append.mp h).elim (fun h => (List.mem_append.mp h).elim (fun h => (List.mem_append.mp h).elim (fun h => (List.mem_append.mp h).elim (fun h => (List.mem_append.mp h).elim (fun h => (List.mem_append.mp h).elim (fun h => (List.mem_append.mp h).elim (fun h => (List.mem_append.mp h).elim (fun h => (List.mem_append.mp h).elim (wl_1 w) (fun h => (List.mem_append.mp h).elim (wl_2 w) (fun h => (List.mem_append.mp h).elim (wl_3 w) (fun h => (List.mem_append.mp h).elim (wl_4 w) (fun h => (List.mem_append.mp h).elim (wl_5 w) (fun h => (List.mem_append.mp h).elim (wl_6 w) (fun h => (List.mem_append.mp h).elim (wl_7 w) (fun h => (List.mem_append.mp h).elim (wl_8 w) (fun h => (List.mem_append.mp h).elim (wl_9 w) (fun h => (List.mem_append.mp h).elim (wl_10 w) (fun h => (List.mem_append.mp h).elim (wl_11 w) (fun h => (List.mem_append.mp h).elim (wl_12 w) (fun h => (List.mem_append.mp h).elim (wl_13 w) (fun h => (List.mem_append.mp h).elim (wl_14 w) (fun h => (List.mem_append.mp h).elim (wl_15 w) (fun h => (List.mem_append.mp h).elim (wl_16 w) (fun h => (List.mem_append.mp h).elim (wl_17 w) (fun h => (List.mem_append.mp h).elim (wl_18 w) (fun h => (List.mem_append.mp h).elim (wl_19 w) (fun h => (List.mem_append.mp h).elim (wl_20 w) (fun h => (List.mem_append.mp h).elim (wl_21 w) (fun h => (List.mem_append.mp h).elim (wl_22 w) (fun h => (List.mem_append.mp h).elim (wl_23 w) (fun h => (List.mem_append.mp h).elim (wl_24 w) (fun h => (List.mem_append.mp h).elim (wl_25 w) (fun h => (List.mem_append.mp h).elim (wl_26 w) (fun h => (List.mem_append.mp h).elim (wl_27 w) (fun h => (List.mem_append.mp h).elim (wl_28 w) (fun h => (List.mem_append.mp h).elim (wl_29 w) (fun h => (List.mem_append.mp h).elim (wl_30 w) (fun h => (List.mem_append.mp h).elim (wl_31 w) (wl_32 w)))))))))))))))))))))))))))))))) (inX9 w)) (inX10 w)) (inX2 w)) (inX5 w)) (inX8 w)) (inX1 w)) (inX6 w)) (inX0 w)) (inX3 w)) (inX7 w)) (inX4 w)) (fun h => absurd h List.not_mem_nil))
