theorem wl_mem {big : List Cond} (ws : List Cond) (ps : List Nat) (hp : ps.filterMap (fun i => big[i]?) = ws) : ∀ w ∈ ws, w ∈ big := by
  intro w hw
  rw [← hp] at hw
  obtain ⟨i, -, hi⟩ := List.mem_filterMap.mp hw
  first | exact List.mem_of_getElem? hi | exact List.getElem?_mem hi
set_option maxRecDepth 20000 in
set_option maxHeartbeats 4000000 in
theorem wl_1 : ∀ w ∈ wsL_law_r1, w ∈ lw_tbl := wl_mem _ [44, 45, 30, 661, 662, 40, 46, 47, 48, 49, 50, 51, 52, 53, 31, 242, 76, 77, 32, 243, 103, 104, 33, 244] rfl
set_option maxRecDepth 20000 in
set_option maxHeartbeats 4000000 in
theorem wl_2 : ∀ w ∈ wsL_law_r2, w ∈ lw_tbl := wl_mem _ [126, 127, 34, 245, 146, 147, 35, 246, 183, 184, 36, 247, 194, 195, 37, 248, 213, 214, 38, 249, 227, 228, 39, 250] rfl
set_option maxRecDepth 20000 in
set_option maxHeartbeats 4000000 in
theorem wl_3 : ∀ w ∈ wsL_law_r3, w ∈ lw_tbl := wl_mem _ [102, 251, 252, 253, 254, 55, 56, 57, 58, 60, 63, 65, 79, 80, 81, 82, 84, 86, 88, 90, 106, 107, 108, 109] rfl
set_option maxRecDepth 20000 in
set_option maxHeartbeats 4000000 in
theorem wl_4 : ∀ w ∈ wsL_law_r4, w ∈ lw_tbl := wl_mem _ [111, 113, 115, 129, 130, 131, 132, 135, 145, 137, 149, 150, 151, 152, 154, 156, 157, 159, 160, 161, 162, 163, 186, 187] rfl
set_option maxRecDepth 20000 in
set_option maxHeartbeats 4000000 in
theorem wl_5 : ∀ w ∈ wsL_law_r5, w ∈ lw_tbl := wl_mem _ [188, 189, 197, 198, 199, 200, 202, 204, 216, 217, 218, 219, 221, 230, 231, 232, 233, 235, 663, 664, 665, 666, 668, 670] rfl
set_option maxRecDepth 20000 in
set_option maxHeartbeats 4000000 in
theorem wl_6 : ∀ w ∈ wsL_law_r6, w ∈ lw_tbl := wl_mem _ [671, 672, 674, 675, 676, 679, 680, 681, 682, 684, 764, 685, 688, 689, 690, 691, 693, 694, 695, 696, 697, 698, 282, 283] rfl
set_option maxRecDepth 20000 in
set_option maxHeartbeats 4000000 in
theorem wl_7 : ∀ w ∈ wsL_law_r7, w ∈ lw_tbl := wl_mem _ [284, 285, 286, 287, 288, 289, 290, 291, 292, 293, 294, 295, 765, 766, 767, 768, 669, 769, 770, 771, 296, 297, 298, 299] rfl
set_option maxRecDepth 20000 in
set_option maxHeartbeats 4000000 in
theorem wl_8 : ∀ w ∈ wsL_law_r8, w ∈ lw_tbl := wl_mem _ [300, 302, 0, 303, 304, 305, 306, 307, 308, 309, 310, 311, 772, 773, 774, 775, 776, 778, 15, 779, 780, 782, 16, 783] rfl
set_option maxRecDepth 20000 in
set_option maxHeartbeats 4000000 in
theorem wl_9 : ∀ w ∈ wsL_law_r9, w ∈ lw_tbl := wl_mem _ [784, 785, 786, 312, 313, 314, 315, 316, 318, 1, 319, 320, 321, 322, 323, 324, 325, 326, 327, 328, 329, 330, 331, 332] rfl
set_option maxRecDepth 20000 in
set_option maxHeartbeats 4000000 in
theorem wl_10 : ∀ w ∈ wsL_law_r10, w ∈ lw_tbl := wl_mem _ [333, 334, 335, 336, 337, 338, 339, 787, 788, 789, 790, 791, 793, 17, 794, 678, 795, 797, 18, 798, 799, 801, 19, 802] rfl
set_option maxRecDepth 20000 in
set_option maxHeartbeats 4000000 in
theorem wl_11 : ∀ w ∈ wsL_law_r11, w ∈ lw_tbl := wl_mem _ [677, 673, 340, 341, 342, 343, 803, 804, 805, 806, 344, 345, 346, 347, 807, 808, 809, 810, 348, 349, 350, 351, 811, 812] rfl
set_option maxRecDepth 20000 in
set_option maxHeartbeats 4000000 in
theorem wl_12 : ∀ w ∈ wsL_law_r12, w ∈ lw_tbl := wl_mem _ [813, 814, 352, 353, 354, 355, 356, 357, 358, 359, 360, 361, 362, 363, 364, 365, 366, 815, 816, 817, 818, 819, 820, 821] rfl
set_option maxRecDepth 20000 in
set_option maxHeartbeats 4000000 in
theorem wl_13 : ∀ w ∈ wsL_law_r13, w ∈ lw_tbl := wl_mem _ [367, 368, 369, 370, 371, 373, 2, 374, 822, 823, 824, 825, 375, 376, 377, 378, 379, 380, 381, 382, 383, 384, 385, 386] rfl
set_option maxRecDepth 20000 in
set_option maxHeartbeats 4000000 in
theorem wl_14 : ∀ w ∈ wsL_law_r14, w ∈ lw_tbl := wl_mem _ [387, 388, 389, 826, 827, 828, 829, 830, 832, 20, 833, 667, 390, 391, 392, 393, 394, 395, 396, 397, 398, 399, 41, 400] rfl
set_option maxRecDepth 20000 in
set_option maxHeartbeats 4000000 in
theorem wl_15 : ∀ w ∈ wsL_law_r15, w ∈ lw_tbl := wl_mem _ [401, 402, 403, 834, 835, 836, 837, 838, 840, 21, 841, 404, 405, 406, 407, 408, 409, 410, 411, 412, 413, 414, 415, 842] rfl
set_option maxRecDepth 20000 in
set_option maxHeartbeats 4000000 in
theorem wl_16 : ∀ w ∈ wsL_law_r16, w ∈ lw_tbl := wl_mem _ [843, 844, 845, 416, 417, 418, 419, 846, 847, 848, 849, 420, 421, 422, 423, 424, 426, 3, 427, 428, 429, 430, 431, 432] rfl
set_option maxRecDepth 20000 in
set_option maxHeartbeats 4000000 in
theorem wl_17 : ∀ w ∈ wsL_law_r17, w ∈ lw_tbl := wl_mem _ [434, 4, 435, 436, 438, 5, 439, 440, 442, 6, 443, 850, 851, 852, 853, 854, 856, 22, 857, 444, 445, 446, 447, 448] rfl
set_option maxRecDepth 20000 in
set_option maxHeartbeats 4000000 in
theorem wl_18 : ∀ w ∈ wsL_law_r18, w ∈ lw_tbl := wl_mem _ [449, 450, 451, 460, 452, 454, 7, 455, 456, 458, 8, 459, 461, 463, 9, 464, 465, 467, 10, 468, 469, 471, 11, 472] rfl
set_option maxRecDepth 20000 in
set_option maxHeartbeats 4000000 in
theorem wl_19 : ∀ w ∈ wsL_law_r19, w ∈ lw_tbl := wl_mem _ [858, 859, 860, 861, 686, 687, 692, 862, 864, 23, 865, 866, 868, 24, 869, 870, 872, 25, 873, 473, 474, 475, 476, 874] rfl
set_option maxRecDepth 20000 in
set_option maxHeartbeats 4000000 in
theorem wl_20 : ∀ w ∈ wsL_law_r20, w ∈ lw_tbl := wl_mem _ [875, 876, 877, 477, 478, 479, 480, 878, 879, 880, 881, 481, 482, 483, 484, 485, 486, 487, 488, 882, 883, 884, 885, 489] rfl
set_option maxRecDepth 20000 in
set_option maxHeartbeats 4000000 in
theorem wl_21 : ∀ w ∈ wsL_law_r21, w ∈ lw_tbl := wl_mem _ [490, 491, 492, 493, 494, 495, 496, 497, 498, 886, 887, 888, 889, 683, 890, 892, 26, 893, 894, 895, 896, 499, 500, 501] rfl
set_option maxRecDepth 20000 in
set_option maxHeartbeats 4000000 in
theorem wl_22 : ∀ w ∈ wsL_law_r22, w ∈ lw_tbl := wl_mem _ [502, 897, 898, 899, 900, 503, 504, 505, 506, 507, 508, 509, 510, 901, 902, 903, 904, 511, 512, 513, 514, 515, 516, 517] rfl
set_option maxRecDepth 20000 in
set_option maxHeartbeats 4000000 in
theorem wl_23 : ∀ w ∈ wsL_law_r23, w ∈ lw_tbl := wl_mem _ [518, 905, 906, 907, 908, 909, 911, 27, 912, 519, 520, 521, 522, 523, 524, 525, 913, 914, 915, 916, 526, 527, 528, 529] rfl
set_option maxRecDepth 20000 in
set_option maxHeartbeats 4000000 in
theorem wl_24 : ∀ w ∈ wsL_law_r24, w ∈ lw_tbl := wl_mem _ [917, 918, 919, 920, 530, 531, 532, 533, 534, 535, 536, 537, 539, 540, 921, 922, 923, 924, 541, 542, 543, 544, 545, 546] rfl
set_option maxRecDepth 20000 in
set_option maxHeartbeats 4000000 in
theorem wl_25 : ∀ w ∈ wsL_law_r25, w ∈ lw_tbl := wl_mem _ [547, 548, 925, 926, 927, 928, 549, 550, 551, 552, 553, 554, 555, 556, 558, 12, 559, 560, 561, 562, 563, 564, 929, 930] rfl
set_option maxRecDepth 20000 in
set_option maxHeartbeats 4000000 in
theorem wl_26 : ∀ w ∈ wsL_law_r26, w ∈ lw_tbl := wl_mem _ [931, 932, 933, 935, 28, 936, 565, 566, 567, 568, 937, 938, 939, 940, 569, 570, 571, 572, 941, 942, 943, 944, 573, 574] rfl
set_option maxRecDepth 20000 in
set_option maxHeartbeats 4000000 in
theorem wl_27 : ∀ w ∈ wsL_law_r27, w ∈ lw_tbl := wl_mem _ [575, 576, 945, 946, 947, 948, 577, 578, 579, 580, 581, 582, 583, 584, 585, 586, 587, 949, 950, 951, 952, 953, 954, 955] rfl
set_option maxRecDepth 20000 in
set_option maxHeartbeats 4000000 in
theorem wl_28 : ∀ w ∈ wsL_law_r28, w ∈ lw_tbl := wl_mem _ [588, 589, 590, 591, 592, 593, 594, 595, 596, 597, 598, 599, 600, 601, 42, 602, 956, 957, 958, 959, 603, 604, 605, 606] rfl
set_option maxRecDepth 20000 in
set_option maxHeartbeats 4000000 in
theorem wl_29 : ∀ w ∈ wsL_law_r29, w ∈ lw_tbl := wl_mem _ [607, 608, 609, 610, 960, 961, 962, 963, 611, 612, 613, 614, 964, 965, 966, 967, 615, 616, 617, 618, 619, 620, 621, 622] rfl
set_option maxRecDepth 20000 in
set_option maxHeartbeats 4000000 in
theorem wl_30 : ∀ w ∈ wsL_law_r30, w ∈ lw_tbl := wl_mem _ [623, 624, 625, 626, 627, 629, 628, 43, 968, 969, 970, 971, 630, 631, 632, 633, 972, 973, 974, 975, 634, 635, 636, 637] rfl
set_option maxRecDepth 20000 in
set_option maxHeartbeats 4000000 in
theorem wl_31 : ∀ w ∈ wsL_law_r31, w ∈ lw_tbl := wl_mem _ [638, 976, 977, 978, 979, 639, 640, 641, 642, 980, 981, 982, 983, 643, 644, 645, 646, 984, 985, 986, 987, 647, 648, 649] rfl
set_option maxRecDepth 20000 in
set_option maxHeartbeats 4000000 in
theorem wl_32 : ∀ w ∈ wsL_law_r32, w ∈ lw_tbl := wl_mem _ [650, 651, 656, 652, 654, 13, 655, 657, 659, 14, 660, 988, 989, 990, 991, 992, 993] rfl
set_option maxRecDepth 20000 in
set_option maxHeartbeats 4000000 in
theorem inX9 : ∀ w ∈ wsX90, w ∈ lw_tbl := wl_mem _ [255, 257, 259, 261, 263, 265, 267, 269, 271, 273, 275, 277, 279] rfl
set_option maxRecDepth 20000 in
set_option maxHeartbeats 4000000 in
theorem inX10 : ∀ w ∈ wsX100, w ∈ lw_tbl := wl_mem _ [699, 701, 703, 705, 707, 709, 711, 713, 715, 717, 719, 721, 723, 725, 727, 729, 731, 733, 735, 737, 739, 741, 743, 745, 747, 749, 751, 753, 755, 757, 759, 761] rfl
set_option maxRecDepth 20000 in
set_option maxHeartbeats 4000000 in
theorem inX2 : ∀ w ∈ wsX20, w ∈ lw_tbl := wl_mem _ [67, 69, 71, 73] rfl
set_option maxRecDepth 20000 in
set_option maxHeartbeats 4000000 in
theorem inX5 : ∀ w ∈ wsX50, w ∈ lw_tbl := wl_mem _ [91, 93, 95, 97, 99] rfl
set_option maxRecDepth 20000 in
set_option maxHeartbeats 4000000 in
theorem inX8 : ∀ w ∈ wsX80, w ∈ lw_tbl := wl_mem _ [117, 119, 121, 123] rfl
set_option maxRecDepth 20000 in
set_option maxHeartbeats 4000000 in
theorem inX1 : ∀ w ∈ wsX10, w ∈ lw_tbl := wl_mem _ [138, 140, 142] rfl
set_option maxRecDepth 20000 in
set_option maxHeartbeats 4000000 in
theorem inX6 : ∀ w ∈ wsX60, w ∈ lw_tbl := wl_mem _ [164, 166, 168, 170, 172, 174, 176, 178, 180] rfl
set_option maxRecDepth 20000 in
set_option maxHeartbeats 4000000 in
theorem inX0 : ∀ w ∈ wsX00, w ∈ lw_tbl := wl_mem _ [191] rfl
set_option maxRecDepth 20000 in
set_option maxHeartbeats 4000000 in
theorem inX3 : ∀ w ∈ wsX30, w ∈ lw_tbl := wl_mem _ [206, 208, 210] rfl
set_option maxRecDepth 20000 in
set_option maxHeartbeats 4000000 in
theorem inX7 : ∀ w ∈ wsX70, w ∈ lw_tbl := wl_mem _ [222, 224] rfl
set_option maxRecDepth 20000 in
set_option maxHeartbeats 4000000 in
theorem inX4 : ∀ w ∈ wsX40, w ∈ lw_tbl := wl_mem _ [237, 239] rfl
set_option maxRecDepth 20000 in
theorem wsL_law_in : ∀ w ∈ wsL_law, w ∈ lw_tbl := fun w => (fun h => (List.mem_append.mp h).elim (fun h => (List.mem_append.mp h).elim (fun h => (List.mem_append.mp h).elim (fun h => (List.mem_append.mp h).elim (fun h => (List.mem_append.mp h).elim (fun h => (List.mem_append.mp h).elim (fun h => (List.mem_append.mp h).elim (fun h => (List.mem_append.mp h).elim (fun h => (List.mem_append.mp h).elim (fun h => (List.mem_append.mp h).elim (fun h => (List.mem_append.mp h).elim (fun h => (List.mem_append.mp h).elim (fun h => (List.mem_append.mp h).elim (wl_1 w) (fun h => (List.mem_append.mp h).elim (wl_2 w) (fun h => (List.mem_append.mp h).elim (wl_3 w) (fun h => (List.mem_append.mp h).elim (wl_4 w) (fun h => (List.mem_append.mp h).elim (wl_5 w) (fun h => (List.mem_append.mp h).elim (wl_6 w) (fun h => (List.mem_append.mp h).elim (wl_7 w) (fun h => (List.mem_append.mp h).elim (wl_8 w) (fun h => (List.mem_append.mp h).elim (wl_9 w) (fun h => (List.mem_append.mp h).elim (wl_10 w) (fun h => (List.mem_append.mp h).elim (wl_11 w) (fun h => (List.mem_append.mp h).elim (wl_12 w) (fun h => (List.mem_append.mp h).elim (wl_13 w) (fun h => (List.mem_append.mp h).elim (wl_14 w) (fun h => (List.mem_append.mp h).elim (wl_15 w) (fun h => (List.mem_append.mp h).elim (wl_16 w) (fun h => (List.mem_append.mp h).elim (wl_17 w) (fun h => (List.mem_append.mp h).elim (wl_18 w) (fun h => (List.mem_append.mp h).elim (wl_19 w) (fun h => (List.mem_append.mp h).elim (wl_20 w) (fun h => (List.mem_append.mp h).elim (wl_21 w) (fun h => (List.mem_append.mp h).elim (wl_22 w) (fun h => (List.mem_append.mp h).elim (wl_23 w) (fun h => (List.mem_append.mp h).elim (wl_24 w) (fun h => (List.mem_append.mp h).elim (wl_25 w) (fun h => (List.mem_append.mp h).elim (wl_26 w) (fun h => (List.mem_append.mp h).elim (wl_27 w) (fun h => (List.mem_append.mp h).elim (wl_28 w) (fun h => (List.mem_append.mp h).elim (wl_29 w) (fun h => (List.mem_append.mp h).elim (wl_30 w) (fun h => (List.mem_append.mp h).elim (wl_31 w) (wl_32 w)))))))))))))))))))))))))))))))) (inX9 w)) (inX10 w)) (inX2 w)) (inX5 w)) (inX8 w)) (inX1 w)) (inX6 w)) (inX0 w)) (inX3 w)) (inX7 w)) (inX4 w)) (fun h => absurd h List.not_mem_nil))
