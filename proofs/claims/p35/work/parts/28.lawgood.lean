theorem wl_good {big : List Cond} (ws : List Cond) (ps : List Nat) (hp : ps.filterMap (fun i => big[i]?) = ws) (h : ws.all goodWord = true) : GoodIn big ws := fun w hw => ⟨wl_mem ws ps hp w hw, good_of_word (List.all_eq_true.mp h w hw)⟩
set_option maxRecDepth 20000 in
set_option maxHeartbeats 4000000 in
theorem gh_X9_init : GoodIn lw_tbl wsX9_init := wl_good _ [48, 49, 50, 51, 52, 53, 31, 242, 76, 77, 32, 243, 103, 104, 33, 244, 126, 127, 34, 245, 146, 147, 35, 246, 183, 184, 36, 247, 194, 195, 37, 248, 213, 214, 38, 249, 227, 228, 39, 250, 102, 251, 252, 253, 254, 55, 56, 57, 58, 60, 63, 65, 79, 80, 81, 82, 84, 86, 88, 90, 106, 107, 108, 109, 111, 113, 115, 129, 130, 131, 132, 135, 145, 137, 149, 150, 151, 152, 154, 156, 157, 159, 160, 161, 162, 163, 186, 187, 188, 189, 197, 198, 199, 200, 202, 204, 216, 217, 218, 219, 221, 230, 231, 232, 233, 235, 67, 69, 71, 73, 255, 257, 259, 261, 263, 265, 267, 269, 271, 273, 275, 277, 279, 91, 93, 95, 97, 99, 117, 119, 121, 123, 138, 140, 142, 164, 166, 168, 170, 172, 174, 176, 178, 180, 191, 206, 208, 210, 222, 224, 237, 239] rfl (by decide +kernel)
set_option maxRecDepth 20000 in
set_option maxHeartbeats 4000000 in
theorem gh_X10_init : GoodIn lw_tbl wsX10_init := wl_good _ [665, 666, 50, 51, 102, 668, 670, 671, 672, 674, 675, 676, 679, 680, 681, 682, 684, 764, 685, 688, 689, 690, 691, 693, 694, 695, 696, 697, 698, 699, 701, 703, 705, 707, 709, 711, 713, 715, 717, 719, 721, 723, 725, 727, 729, 731, 733, 735, 737, 739, 741, 743, 745, 747, 749, 751, 753, 755, 757, 759, 761] rfl (by decide +kernel)
set_option maxRecDepth 20000 in
set_option maxHeartbeats 4000000 in
theorem gh_X9_person : GoodIn lw_tbl wsX9_person := wl_good _ [285, 243, 286, 287, 30, 288, 289, 290, 291, 292, 293, 294, 32, 295, 84, 82, 86, 255, 257, 259, 261, 263, 265, 267, 269, 271, 273, 275, 277, 279, 91, 93, 95, 97, 99] rfl (by decide +kernel)
set_option maxRecDepth 20000 in
set_option maxHeartbeats 4000000 in
theorem gl_X9_person : GoodIn lw_tbl (wsV RL 13 RX9 yX9_person wsX9_person) := goodIn_app (wl_good _ [282, 283, 284, 30] rfl (by decide +kernel)) gh_X9_person
set_option maxRecDepth 20000 in
set_option maxHeartbeats 4000000 in
theorem gh_X10_person : GoodIn lw_tbl wsX10_person := wl_good _ [768, 669, 670, 671, 769, 770, 40, 771, 699, 701, 703, 705, 707, 709, 711, 713, 715, 717, 719, 721, 723, 725, 727, 729, 731, 733, 735, 737, 739, 741, 743, 745, 747, 749, 751, 753, 755, 757, 759, 761] rfl (by decide +kernel)
set_option maxRecDepth 20000 in
set_option maxHeartbeats 4000000 in
theorem gl_X10_person : GoodIn lw_tbl (wsV RL 17 RX10 yX10_person wsX10_person) := goodIn_app (wl_good _ [765, 766, 767, 40] rfl (by decide +kernel)) gh_X10_person
set_option maxRecDepth 20000 in
set_option maxHeartbeats 4000000 in
theorem gh_X9_change : GoodIn lw_tbl wsX9_change := wl_good _ [299, 243, 300, 302, 0, 30, 303, 286, 287, 288, 304, 305, 306, 32, 307, 84, 289, 290, 291, 308, 309, 310, 311, 86, 88, 255, 257, 259, 261, 263, 265, 267, 269, 271, 273, 275, 277, 279, 91, 93, 95, 97, 99] rfl (by decide +kernel)
set_option maxRecDepth 20000 in
set_option maxHeartbeats 4000000 in
theorem gl_X9_change : GoodIn lw_tbl (wsV RL 18 RX9 yX9_change wsX9_change) := goodIn_app (wl_good _ [296, 297, 298, 30] rfl (by decide +kernel)) gh_X9_change
set_option maxRecDepth 20000 in
set_option maxHeartbeats 4000000 in
theorem gh_X10_change : GoodIn lw_tbl wsX10_change := wl_good _ [775, 670, 776, 778, 15, 40, 779, 669, 769, 770, 771, 780, 782, 16, 783, 671, 672, 784, 785, 786, 699, 701, 703, 705, 707, 709, 711, 713, 715, 717, 719, 721, 723, 725, 727, 729, 731, 733, 735, 737, 739, 741, 743, 745, 747, 749, 751, 753, 755, 757, 759, 761] rfl (by decide +kernel)
set_option maxRecDepth 20000 in
set_option maxHeartbeats 4000000 in
theorem gl_X10_change : GoodIn lw_tbl (wsV RL 22 RX10 yX10_change wsX10_change) := goodIn_app (wl_good _ [772, 773, 774, 40] rfl (by decide +kernel)) gh_X10_change
set_option maxRecDepth 20000 in
set_option maxHeartbeats 4000000 in
theorem gh_X9_told : GoodIn lw_tbl wsX9_told := wl_good _ [315, 243, 244, 300, 302, 0, 30, 303, 316, 318, 1, 319, 242, 253, 320, 321, 322, 33, 323, 109, 111, 115, 113, 324, 325, 326, 31, 327, 58, 328, 329, 330, 331, 332, 333, 334, 335, 63, 60, 336, 337, 338, 339, 255, 257, 259, 261, 263, 265, 267, 269, 271, 273, 275, 277, 279, 91, 93, 95, 97, 99, 117, 119, 121, 123, 67, 69, 71, 73] rfl (by decide +kernel)
set_option maxRecDepth 20000 in
set_option maxHeartbeats 4000000 in
theorem gl_X9_told : GoodIn lw_tbl (wsV RL 23 RX9 yX9_told wsX9_told) := goodIn_app (wl_good _ [312, 313, 314, 30] rfl (by decide +kernel)) gh_X9_told
set_option maxRecDepth 20000 in
set_option maxHeartbeats 4000000 in
theorem gh_X10_told : GoodIn lw_tbl wsX10_told := wl_good _ [790, 776, 778, 15, 40, 779, 669, 769, 770, 771, 791, 793, 17, 794, 670, 671, 672, 678, 679, 795, 797, 18, 798, 784, 785, 786, 799, 801, 19, 802, 680, 677, 681, 674, 675, 673, 699, 701, 703, 705, 707, 709, 711, 713, 715, 717, 719, 721, 723, 725, 727, 729, 731, 733, 735, 737, 739, 741, 743, 745, 747, 749, 751, 753, 755, 757, 759, 761] rfl (by decide +kernel)
set_option maxRecDepth 20000 in
set_option maxHeartbeats 4000000 in
theorem gl_X10_told : GoodIn lw_tbl (wsV RL 26 RX10 yX10_told wsX10_told) := goodIn_app (wl_good _ [787, 788, 789, 40] rfl (by decide +kernel)) gh_X10_told
set_option maxRecDepth 20000 in
set_option maxHeartbeats 4000000 in
theorem gh_X9_standby : GoodIn lw_tbl wsX9_standby := wl_good _ [343, 253, 289, 290, 30, 291, 255, 257, 259, 261, 263, 265, 267, 269, 271, 273, 275, 277, 279] rfl (by decide +kernel)
set_option maxRecDepth 20000 in
set_option maxHeartbeats 4000000 in
theorem gl_X9_standby : GoodIn lw_tbl (wsV RL 27 RX9 yX9_standby wsX9_standby) := goodIn_app (wl_good _ [340, 341, 342, 30] rfl (by decide +kernel)) gh_X9_standby
set_option maxRecDepth 20000 in
set_option maxHeartbeats 4000000 in
theorem gh_X10_standby : GoodIn lw_tbl wsX10_standby := wl_good _ [806, 673, 769, 770, 40, 771, 699, 701, 703, 705, 707, 709, 711, 713, 715, 717, 719, 721, 723, 725, 727, 729, 731, 733, 735, 737, 739, 741, 743, 745, 747, 749, 751, 753, 755, 757, 759, 761] rfl (by decide +kernel)
set_option maxRecDepth 20000 in
set_option maxHeartbeats 4000000 in
theorem gl_X10_standby : GoodIn lw_tbl (wsV RL 31 RX10 yX10_standby wsX10_standby) := goodIn_app (wl_good _ [803, 804, 805, 40] rfl (by decide +kernel)) gh_X10_standby
set_option maxRecDepth 20000 in
set_option maxHeartbeats 4000000 in
theorem gh_X9_rule : GoodIn lw_tbl wsX9_rule := wl_good _ [347, 242, 255, 257, 259, 261, 263, 265, 267, 269, 271, 273, 275, 277, 279, 67, 69, 71, 73] rfl (by decide +kernel)
set_option maxRecDepth 20000 in
set_option maxHeartbeats 4000000 in
theorem gl_X9_rule : GoodIn lw_tbl (wsV RL 32 RX9 yX9_rule wsX9_rule) := goodIn_app (wl_good _ [344, 345, 346, 30] rfl (by decide +kernel)) gh_X9_rule
set_option maxRecDepth 20000 in
set_option maxHeartbeats 4000000 in
theorem gh_X10_rule : GoodIn lw_tbl wsX10_rule := wl_good _ [810, 674, 675, 676, 769, 770, 40, 771, 699, 701, 703, 705, 707, 709, 711, 713, 715, 717, 719, 721, 723, 725, 727, 729, 731, 733, 735, 737, 739, 741, 743, 745, 747, 749, 751, 753, 755, 757, 759, 761] rfl (by decide +kernel)
set_option maxRecDepth 20000 in
set_option maxHeartbeats 4000000 in
theorem gl_X10_rule : GoodIn lw_tbl (wsV RL 35 RX10 yX10_rule wsX10_rule) := goodIn_app (wl_good _ [807, 808, 809, 40] rfl (by decide +kernel)) gh_X10_rule
set_option maxRecDepth 20000 in
set_option maxHeartbeats 4000000 in
theorem gh_X9_later : GoodIn lw_tbl wsX9_later := wl_good _ [351, 242, 255, 257, 259, 261, 263, 265, 267, 269, 271, 273, 275, 277, 279, 67, 69, 71, 73] rfl (by decide +kernel)
set_option maxRecDepth 20000 in
set_option maxHeartbeats 4000000 in
theorem gl_X9_later : GoodIn lw_tbl (wsV RL 36 RX9 yX9_later wsX9_later) := goodIn_app (wl_good _ [348, 349, 350, 30] rfl (by decide +kernel)) gh_X9_later
set_option maxRecDepth 20000 in
set_option maxHeartbeats 4000000 in
theorem gh_X10_later : GoodIn lw_tbl wsX10_later := wl_good _ [814, 677, 699, 701, 703, 705, 707, 709, 711, 713, 715, 717, 719, 721, 723, 725, 727, 729, 731, 733, 735, 737, 739, 741, 743, 745, 747, 749, 751, 753, 755, 757, 759, 761] rfl (by decide +kernel)
set_option maxRecDepth 20000 in
set_option maxHeartbeats 4000000 in
theorem gl_X10_later : GoodIn lw_tbl (wsV RL 39 RX10 yX10_later wsX10_later) := goodIn_app (wl_good _ [811, 812, 813, 40] rfl (by decide +kernel)) gh_X10_later
set_option maxRecDepth 20000 in
set_option maxHeartbeats 4000000 in
theorem gh_X9_use : GoodIn lw_tbl wsX9_use := wl_good _ [355, 242, 244, 243, 300, 302, 0, 30, 303, 356, 357, 358, 359, 360, 361, 32, 362, 86, 363, 364, 365, 33, 366, 111, 109, 113, 115, 255, 257, 259, 261, 263, 265, 267, 269, 271, 273, 275, 277, 279, 67, 69, 71, 73, 117, 119, 121, 123, 91, 93, 95, 97, 99] rfl (by decide +kernel)
set_option maxRecDepth 20000 in
set_option maxHeartbeats 4000000 in
theorem gl_X9_use : GoodIn lw_tbl (wsV RL 40 RX9 yX9_use wsX9_use) := goodIn_app (wl_good _ [352, 353, 354, 30] rfl (by decide +kernel)) gh_X9_use
set_option maxRecDepth 20000 in
set_option maxHeartbeats 4000000 in
theorem gh_X10_use : GoodIn lw_tbl wsX10_use := wl_good _ [818, 677, 678, 671, 679, 680, 681, 776, 778, 15, 40, 779, 669, 769, 770, 771, 819, 820, 821, 784, 785, 786, 699, 701, 703, 705, 707, 709, 711, 713, 715, 717, 719, 721, 723, 725, 727, 729, 731, 733, 735, 737, 739, 741, 743, 745, 747, 749, 751, 753, 755, 757, 759, 761] rfl (by decide +kernel)
set_option maxRecDepth 20000 in
set_option maxHeartbeats 4000000 in
theorem gl_X10_use : GoodIn lw_tbl (wsV RL 43 RX10 yX10_use wsX10_use) := goodIn_app (wl_good _ [815, 816, 817, 40] rfl (by decide +kernel)) gh_X10_use
set_option maxRecDepth 20000 in
set_option maxHeartbeats 4000000 in
theorem gh_X9_kind : GoodIn lw_tbl wsX9_kind := wl_good _ [370, 243, 300, 302, 0, 30, 303, 356, 357, 358, 359, 360, 361, 32, 362, 86, 371, 373, 2, 374, 244, 242, 253, 320, 321, 322, 33, 323, 109, 111, 115, 113, 324, 325, 326, 31, 327, 58, 328, 329, 330, 331, 332, 333, 334, 335, 63, 60, 255, 257, 259, 261, 263, 265, 267, 269, 271, 273, 275, 277, 279, 91, 93, 95, 97, 99, 117, 119, 121, 123, 67, 69, 71, 73] rfl (by decide +kernel)
set_option maxRecDepth 20000 in
set_option maxHeartbeats 4000000 in
theorem gl_X9_kind : GoodIn lw_tbl (wsV RL 44 RX9 yX9_kind wsX9_kind) := goodIn_app (wl_good _ [367, 368, 369, 30] rfl (by decide +kernel)) gh_X9_kind
set_option maxRecDepth 20000 in
set_option maxHeartbeats 4000000 in
theorem gh_X10_kind : GoodIn lw_tbl wsX10_kind := wl_good _ [825, 671, 776, 778, 15, 40, 779, 669, 769, 770, 771, 819, 820, 821, 784, 785, 786, 799, 801, 19, 802, 678, 679, 680, 677, 681, 674, 675, 673, 699, 701, 703, 705, 707, 709, 711, 713, 715, 717, 719, 721, 723, 725, 727, 729, 731, 733, 735, 737, 739, 741, 743, 745, 747, 749, 751, 753, 755, 757, 759, 761] rfl (by decide +kernel)
set_option maxRecDepth 20000 in
set_option maxHeartbeats 4000000 in
theorem gl_X10_kind : GoodIn lw_tbl (wsV RL 47 RX10 yX10_kind wsX10_kind) := goodIn_app (wl_good _ [822, 823, 824, 40] rfl (by decide +kernel)) gh_X10_kind
set_option maxRecDepth 20000 in
set_option maxHeartbeats 4000000 in
theorem gh_X9_uses : GoodIn lw_tbl wsX9_uses := wl_good _ [378, 243, 250, 244, 300, 302, 0, 30, 303, 356, 357, 358, 359, 360, 361, 32, 362, 86, 371, 373, 2, 374, 242, 253, 320, 321, 322, 33, 323, 109, 111, 115, 113, 324, 325, 326, 31, 327, 58, 328, 329, 330, 331, 332, 333, 334, 335, 63, 60, 379, 380, 381, 382, 383, 384, 39, 385, 233, 235, 386, 387, 388, 389, 255, 257, 259, 261, 263, 265, 267, 269, 271, 273, 275, 277, 279, 91, 93, 95, 97, 99, 117, 119, 121, 123, 67, 69, 71, 73, 237, 239] rfl (by decide +kernel)
set_option maxRecDepth 20000 in
set_option maxHeartbeats 4000000 in
theorem gl_X9_uses : GoodIn lw_tbl (wsV RL 48 RX9 yX9_uses wsX9_uses) := goodIn_app (wl_good _ [375, 376, 377, 30] rfl (by decide +kernel)) gh_X9_uses
set_option maxRecDepth 20000 in
set_option maxHeartbeats 4000000 in
theorem gh_X10_uses : GoodIn lw_tbl wsX10_uses := wl_good _ [829, 671, 678, 679, 680, 776, 778, 15, 40, 779, 669, 769, 770, 771, 819, 820, 821, 784, 785, 786, 799, 801, 19, 802, 677, 681, 674, 675, 673, 830, 832, 20, 833, 667, 668, 699, 701, 703, 705, 707, 709, 711, 713, 715, 717, 719, 721, 723, 725, 727, 729, 731, 733, 735, 737, 739, 741, 743, 745, 747, 749, 751, 753, 755, 757, 759, 761] rfl (by decide +kernel)
set_option maxRecDepth 20000 in
set_option maxHeartbeats 4000000 in
theorem gl_X10_uses : GoodIn lw_tbl (wsV RL 51 RX10 yX10_uses wsX10_uses) := goodIn_app (wl_good _ [826, 827, 828, 40] rfl (by decide +kernel)) gh_X10_uses
set_option maxRecDepth 20000 in
set_option maxHeartbeats 4000000 in
theorem gh_X9_strike : GoodIn lw_tbl wsX9_strike := wl_good _ [393, 243, 242, 300, 302, 0, 30, 303, 316, 318, 1, 319, 244, 253, 320, 321, 322, 33, 323, 109, 111, 115, 113, 324, 325, 326, 31, 327, 58, 328, 329, 330, 331, 332, 333, 334, 335, 63, 60, 394, 395, 396, 32, 397, 86, 88, 90, 398, 399, 41, 400, 401, 402, 403, 255, 257, 259, 261, 263, 265, 267, 269, 271, 273, 275, 277, 279, 67, 69, 71, 73, 91, 93, 95, 97, 99, 117, 119, 121, 123] rfl (by decide +kernel)
set_option maxRecDepth 20000 in
set_option maxHeartbeats 4000000 in
theorem gl_X9_strike : GoodIn lw_tbl (wsV RL 52 RX9 yX9_strike wsX9_strike) := goodIn_app (wl_good _ [390, 391, 392, 30] rfl (by decide +kernel)) gh_X9_strike
set_option maxRecDepth 20000 in
set_option maxHeartbeats 4000000 in
theorem gh_X10_strike : GoodIn lw_tbl wsX10_strike := wl_good _ [837, 776, 778, 15, 40, 779, 669, 769, 770, 771, 795, 797, 18, 798, 671, 784, 785, 786, 799, 801, 19, 802, 678, 679, 680, 677, 681, 674, 675, 673, 838, 840, 21, 841, 672, 699, 701, 703, 705, 707, 709, 711, 713, 715, 717, 719, 721, 723, 725, 727, 729, 731, 733, 735, 737, 739, 741, 743, 745, 747, 749, 751, 753, 755, 757, 759, 761] rfl (by decide +kernel)
set_option maxRecDepth 20000 in
set_option maxHeartbeats 4000000 in
theorem gl_X10_strike : GoodIn lw_tbl (wsV RL 55 RX10 yX10_strike wsX10_strike) := goodIn_app (wl_good _ [834, 835, 836, 40] rfl (by decide +kernel)) gh_X10_strike
set_option maxRecDepth 20000 in
set_option maxHeartbeats 4000000 in
theorem gh_X9_ask : GoodIn lw_tbl wsX9_ask := wl_good _ [407, 243, 242, 252, 300, 302, 0, 30, 303, 356, 357, 358, 408, 409, 410, 32, 411, 86, 88, 90, 412, 413, 414, 31, 415, 58, 65, 255, 257, 259, 261, 263, 265, 267, 269, 271, 273, 275, 277, 279, 91, 93, 95, 97, 99, 67, 69, 71, 73] rfl (by decide +kernel)
set_option maxRecDepth 20000 in
set_option maxHeartbeats 4000000 in
theorem gl_X9_ask : GoodIn lw_tbl (wsV RL 56 RX9 yX9_ask wsX9_ask) := goodIn_app (wl_good _ [404, 405, 406, 30] rfl (by decide +kernel)) gh_X9_ask
set_option maxRecDepth 20000 in
set_option maxHeartbeats 4000000 in
theorem gh_X10_ask : GoodIn lw_tbl wsX10_ask := wl_good _ [845, 672, 671, 677, 676, 682, 776, 778, 15, 40, 779, 669, 769, 770, 771, 819, 820, 821, 784, 785, 786, 699, 701, 703, 705, 707, 709, 711, 713, 715, 717, 719, 721, 723, 725, 727, 729, 731, 733, 735, 737, 739, 741, 743, 745, 747, 749, 751, 753, 755, 757, 759, 761] rfl (by decide +kernel)
set_option maxRecDepth 20000 in
set_option maxHeartbeats 4000000 in
theorem gl_X10_ask : GoodIn lw_tbl (wsV RL 59 RX10 yX10_ask wsX10_ask) := goodIn_app (wl_good _ [842, 843, 844, 40] rfl (by decide +kernel)) gh_X10_ask
set_option maxRecDepth 20000 in
set_option maxHeartbeats 4000000 in
theorem gh_X9_asks : GoodIn lw_tbl wsX9_asks := wl_good _ [419, 252, 255, 257, 259, 261, 263, 265, 267, 269, 271, 273, 275, 277, 279] rfl (by decide +kernel)
set_option maxRecDepth 20000 in
set_option maxHeartbeats 4000000 in
theorem gl_X9_asks : GoodIn lw_tbl (wsV RL 60 RX9 yX9_asks wsX9_asks) := goodIn_app (wl_good _ [416, 417, 418, 30] rfl (by decide +kernel)) gh_X9_asks
set_option maxRecDepth 20000 in
set_option maxHeartbeats 4000000 in
theorem gh_X10_asks : GoodIn lw_tbl wsX10_asks := wl_good _ [849, 682, 769, 770, 40, 771, 699, 701, 703, 705, 707, 709, 711, 713, 715, 717, 719, 721, 723, 725, 727, 729, 731, 733, 735, 737, 739, 741, 743, 745, 747, 749, 751, 753, 755, 757, 759, 761] rfl (by decide +kernel)
set_option maxRecDepth 20000 in
set_option maxHeartbeats 4000000 in
theorem gl_X10_asks : GoodIn lw_tbl (wsV RL 63 RX10 yX10_asks wsX10_asks) := goodIn_app (wl_good _ [846, 847, 848, 40] rfl (by decide +kernel)) gh_X10_asks
set_option maxRecDepth 20000 in
set_option maxHeartbeats 4000000 in
theorem gh_X9_candidates : GoodIn lw_tbl wsX9_candidates := wl_good _ [423, 245, 251, 243, 424, 426, 3, 30, 427, 316, 318, 1, 319, 244, 242, 253, 320, 321, 322, 33, 323, 109, 111, 115, 113, 324, 325, 326, 31, 327, 58, 328, 329, 330, 331, 332, 333, 334, 335, 63, 60, 428, 429, 430, 34, 431, 137, 132, 135, 432, 434, 4, 435, 436, 438, 5, 439, 440, 442, 6, 443, 255, 257, 259, 261, 263, 265, 267, 269, 271, 273, 275, 277, 279, 91, 93, 95, 97, 99, 138, 140, 142, 117, 119, 121, 123, 67, 69, 71, 73] rfl (by decide +kernel)
set_option maxRecDepth 20000 in
set_option maxHeartbeats 4000000 in
theorem gl_X9_candidates : GoodIn lw_tbl (wsV RL 64 RX9 yX9_candidates wsX9_candidates) := goodIn_app (wl_good _ [420, 421, 422, 30] rfl (by decide +kernel)) gh_X9_candidates
set_option maxRecDepth 20000 in
set_option maxHeartbeats 4000000 in
theorem gh_X10_candidates : GoodIn lw_tbl wsX10_candidates := wl_good _ [853, 854, 856, 22, 40, 857, 685, 669, 684, 795, 797, 18, 798, 671, 784, 785, 786, 799, 801, 19, 802, 678, 679, 680, 677, 681, 674, 675, 673, 699, 701, 703, 705, 707, 709, 711, 713, 715, 717, 719, 721, 723, 725, 727, 729, 731, 733, 735, 737, 739, 741, 743, 745, 747, 749, 751, 753, 755, 757, 759, 761] rfl (by decide +kernel)
set_option maxRecDepth 20000 in
set_option maxHeartbeats 4000000 in
theorem gl_X10_candidates : GoodIn lw_tbl (wsV RL 68 RX10 yX10_candidates wsX10_candidates) := goodIn_app (wl_good _ [850, 851, 852, 40] rfl (by decide +kernel)) gh_X10_candidates
set_option maxRecDepth 20000 in
set_option maxHeartbeats 4000000 in
theorem gh_X9_roles : GoodIn lw_tbl wsX9_roles := wl_good _ [447, 245, 251, 243, 246, 424, 426, 3, 30, 427, 316, 318, 1, 319, 244, 242, 253, 320, 321, 322, 33, 323, 109, 111, 115, 113, 324, 325, 326, 31, 327, 58, 328, 329, 330, 331, 332, 333, 334, 335, 63, 60, 428, 429, 430, 34, 431, 137, 132, 135, 432, 434, 4, 435, 436, 438, 5, 439, 440, 442, 6, 443, 448, 449, 450, 35, 451, 156, 460, 154, 159, 152, 452, 454, 7, 455, 163, 456, 458, 8, 459, 160, 161, 162, 461, 463, 9, 464, 465, 467, 10, 468, 469, 471, 11, 472, 157, 255, 257, 259, 261, 263, 265, 267, 269, 271, 273, 275, 277, 279, 91, 93, 95, 97, 99, 164, 166, 168, 170, 172, 174, 176, 178, 180, 117, 119, 121, 123, 67, 69, 71, 73, 138, 140, 142] rfl (by decide +kernel)
set_option maxRecDepth 20000 in
set_option maxHeartbeats 4000000 in
theorem gl_X9_roles : GoodIn lw_tbl (wsV RL 69 RX9 yX9_roles wsX9_roles) := goodIn_app (wl_good _ [444, 445, 446, 30] rfl (by decide +kernel)) gh_X9_roles
set_option maxRecDepth 20000 in
set_option maxHeartbeats 4000000 in
theorem gh_X10_roles : GoodIn lw_tbl wsX10_roles := wl_good _ [861, 686, 687, 692, 688, 689, 769, 770, 40, 771, 854, 856, 22, 857, 685, 669, 684, 795, 797, 18, 798, 671, 784, 785, 786, 799, 801, 19, 802, 678, 679, 680, 677, 681, 674, 675, 673, 862, 864, 23, 865, 866, 868, 24, 869, 691, 690, 870, 872, 25, 873, 699, 701, 703, 705, 707, 709, 711, 713, 715, 717, 719, 721, 723, 725, 727, 729, 731, 733, 735, 737, 739, 741, 743, 745, 747, 749, 751, 753, 755, 757, 759, 761] rfl (by decide +kernel)
set_option maxRecDepth 20000 in
set_option maxHeartbeats 4000000 in
theorem gl_X10_roles : GoodIn lw_tbl (wsV RL 72 RX10 yX10_roles wsX10_roles) := goodIn_app (wl_good _ [858, 859, 860, 40] rfl (by decide +kernel)) gh_X10_roles
set_option maxRecDepth 20000 in
set_option maxHeartbeats 4000000 in
theorem gh_X9_tries : GoodIn lw_tbl wsX9_tries := wl_good _ [476, 246, 255, 257, 259, 261, 263, 265, 267, 269, 271, 273, 275, 277, 279, 164, 166, 168, 170, 172, 174, 176, 178, 180] rfl (by decide +kernel)
set_option maxRecDepth 20000 in
set_option maxHeartbeats 4000000 in
theorem gl_X9_tries : GoodIn lw_tbl (wsV RL 73 RX9 yX9_tries wsX9_tries) := goodIn_app (wl_good _ [473, 474, 475, 30] rfl (by decide +kernel)) gh_X9_tries
set_option maxRecDepth 20000 in
set_option maxHeartbeats 4000000 in
theorem gh_X10_tries : GoodIn lw_tbl wsX10_tries := wl_good _ [877, 686, 699, 701, 703, 705, 707, 709, 711, 713, 715, 717, 719, 721, 723, 725, 727, 729, 731, 733, 735, 737, 739, 741, 743, 745, 747, 749, 751, 753, 755, 757, 759, 761] rfl (by decide +kernel)
set_option maxRecDepth 20000 in
set_option maxHeartbeats 4000000 in
theorem gl_X10_tries : GoodIn lw_tbl (wsV RL 76 RX10 yX10_tries wsX10_tries) := goodIn_app (wl_good _ [874, 875, 876, 40] rfl (by decide +kernel)) gh_X10_tries
set_option maxRecDepth 20000 in
set_option maxHeartbeats 4000000 in
theorem gh_X9_role : GoodIn lw_tbl wsX9_role := wl_good _ [480, 246, 255, 257, 259, 261, 263, 265, 267, 269, 271, 273, 275, 277, 279, 164, 166, 168, 170, 172, 174, 176, 178, 180] rfl (by decide +kernel)
set_option maxRecDepth 20000 in
set_option maxHeartbeats 4000000 in
theorem gl_X9_role : GoodIn lw_tbl (wsV RL 77 RX9 yX9_role wsX9_role) := goodIn_app (wl_good _ [477, 478, 479, 30] rfl (by decide +kernel)) gh_X9_role
set_option maxRecDepth 20000 in
set_option maxHeartbeats 4000000 in
theorem gh_X10_role : GoodIn lw_tbl wsX10_role := wl_good _ [881, 687, 688, 769, 770, 40, 771, 699, 701, 703, 705, 707, 709, 711, 713, 715, 717, 719, 721, 723, 725, 727, 729, 731, 733, 735, 737, 739, 741, 743, 745, 747, 749, 751, 753, 755, 757, 759, 761] rfl (by decide +kernel)
set_option maxRecDepth 20000 in
set_option maxHeartbeats 4000000 in
theorem gl_X10_role : GoodIn lw_tbl (wsV RL 80 RX10 yX10_role wsX10_role) := goodIn_app (wl_good _ [878, 879, 880, 40] rfl (by decide +kernel)) gh_X10_role
set_option maxRecDepth 20000 in
set_option maxHeartbeats 4000000 in
theorem gh_X9_rolesOf : GoodIn lw_tbl wsX9_rolesOf := wl_good _ [484, 246, 300, 302, 0, 30, 303, 243, 316, 318, 1, 319, 244, 242, 253, 320, 321, 322, 33, 323, 109, 111, 115, 113, 324, 325, 326, 31, 327, 58, 328, 329, 330, 331, 332, 333, 334, 335, 63, 60, 485, 486, 487, 35, 488, 152, 157, 255, 257, 259, 261, 263, 265, 267, 269, 271, 273, 275, 277, 279, 91, 93, 95, 97, 99, 117, 119, 121, 123, 67, 69, 71, 73, 164, 166, 168, 170, 172, 174, 176, 178, 180] rfl (by decide +kernel)
set_option maxRecDepth 20000 in
set_option maxHeartbeats 4000000 in
theorem gl_X9_rolesOf : GoodIn lw_tbl (wsV RL 81 RX9 yX9_rolesOf wsX9_rolesOf) := goodIn_app (wl_good _ [481, 482, 483, 30] rfl (by decide +kernel)) gh_X9_rolesOf
set_option maxRecDepth 20000 in
set_option maxHeartbeats 4000000 in
theorem gh_X10_rolesOf : GoodIn lw_tbl wsX10_rolesOf := wl_good _ [885, 687, 688, 776, 778, 15, 40, 779, 669, 769, 770, 771, 795, 797, 18, 798, 671, 784, 785, 786, 799, 801, 19, 802, 678, 679, 680, 677, 681, 674, 675, 673, 699, 701, 703, 705, 707, 709, 711, 713, 715, 717, 719, 721, 723, 725, 727, 729, 731, 733, 735, 737, 739, 741, 743, 745, 747, 749, 751, 753, 755, 757, 759, 761] rfl (by decide +kernel)
set_option maxRecDepth 20000 in
set_option maxHeartbeats 4000000 in
theorem gl_X10_rolesOf : GoodIn lw_tbl (wsV RL 84 RX10 yX10_rolesOf wsX10_rolesOf) := goodIn_app (wl_good _ [882, 883, 884, 40] rfl (by decide +kernel)) gh_X10_rolesOf
set_option maxRecDepth 20000 in
set_option maxHeartbeats 4000000 in
theorem gh_X9_marksOf : GoodIn lw_tbl wsX9_marksOf := wl_good _ [492, 243, 254, 356, 357, 30, 358, 493, 494, 495, 32, 496, 82, 84, 497, 360, 361, 362, 86, 498, 399, 41, 400, 401, 402, 403, 255, 257, 259, 261, 263, 265, 267, 269, 271, 273, 275, 277, 279, 91, 93, 95, 97, 99] rfl (by decide +kernel)
set_option maxRecDepth 20000 in
set_option maxHeartbeats 4000000 in
theorem gl_X9_marksOf : GoodIn lw_tbl (wsV RL 85 RX9 yX9_marksOf wsX9_marksOf) := goodIn_app (wl_good _ [489, 490, 491, 30] rfl (by decide +kernel)) gh_X9_marksOf
set_option maxRecDepth 20000 in
set_option maxHeartbeats 4000000 in
theorem gh_X10_marksOf : GoodIn lw_tbl wsX10_marksOf := wl_good _ [889, 669, 683, 819, 820, 40, 821, 769, 770, 771, 890, 892, 26, 893, 670, 671, 784, 785, 786, 894, 895, 896, 699, 701, 703, 705, 707, 709, 711, 713, 715, 717, 719, 721, 723, 725, 727, 729, 731, 733, 735, 737, 739, 741, 743, 745, 747, 749, 751, 753, 755, 757, 759, 761] rfl (by decide +kernel)
set_option maxRecDepth 20000 in
set_option maxHeartbeats 4000000 in
theorem gl_X10_marksOf : GoodIn lw_tbl (wsV RL 88 RX10 yX10_marksOf wsX10_marksOf) := goodIn_app (wl_good _ [886, 887, 888, 40] rfl (by decide +kernel)) gh_X10_marksOf
set_option maxRecDepth 20000 in
set_option maxHeartbeats 4000000 in
theorem gh_X9_exceptions : GoodIn lw_tbl wsX9_exceptions := wl_good _ [502, 243, 356, 357, 30, 358, 286, 287, 288, 493, 494, 495, 32, 496, 82, 84, 497, 360, 361, 362, 86, 255, 257, 259, 261, 263, 265, 267, 269, 271, 273, 275, 277, 279, 91, 93, 95, 97, 99] rfl (by decide +kernel)
set_option maxRecDepth 20000 in
set_option maxHeartbeats 4000000 in
theorem gl_X9_exceptions : GoodIn lw_tbl (wsV RL 89 RX9 yX9_exceptions wsX9_exceptions) := goodIn_app (wl_good _ [499, 500, 501, 30] rfl (by decide +kernel)) gh_X9_exceptions
set_option maxRecDepth 20000 in
set_option maxHeartbeats 4000000 in
theorem gh_X10_exceptions : GoodIn lw_tbl wsX10_exceptions := wl_good _ [900, 819, 820, 40, 821, 769, 770, 771, 890, 892, 26, 893, 669, 670, 671, 784, 785, 786, 699, 701, 703, 705, 707, 709, 711, 713, 715, 717, 719, 721, 723, 725, 727, 729, 731, 733, 735, 737, 739, 741, 743, 745, 747, 749, 751, 753, 755, 757, 759, 761] rfl (by decide +kernel)
set_option maxRecDepth 20000 in
set_option maxHeartbeats 4000000 in
theorem gl_X10_exceptions : GoodIn lw_tbl (wsV RL 92 RX10 yX10_exceptions wsX10_exceptions) := goodIn_app (wl_good _ [897, 898, 899, 40] rfl (by decide +kernel)) gh_X10_exceptions
set_option maxRecDepth 20000 in
set_option maxHeartbeats 4000000 in
theorem gh_X9_ban : GoodIn lw_tbl wsX9_ban := wl_good _ [506, 247, 356, 357, 30, 358, 507, 508, 509, 36, 510, 189, 255, 257, 259, 261, 263, 265, 267, 269, 271, 273, 275, 277, 279, 191] rfl (by decide +kernel)
set_option maxRecDepth 20000 in
set_option maxHeartbeats 4000000 in
theorem gl_X9_ban : GoodIn lw_tbl (wsV RL 93 RX9 yX9_ban wsX9_ban) := goodIn_app (wl_good _ [503, 504, 505, 30] rfl (by decide +kernel)) gh_X9_ban
set_option maxRecDepth 20000 in
set_option maxHeartbeats 4000000 in
theorem gh_X10_ban : GoodIn lw_tbl wsX10_ban := wl_good _ [904, 693, 819, 820, 40, 821, 769, 770, 771, 784, 785, 786, 699, 701, 703, 705, 707, 709, 711, 713, 715, 717, 719, 721, 723, 725, 727, 729, 731, 733, 735, 737, 739, 741, 743, 745, 747, 749, 751, 753, 755, 757, 759, 761] rfl (by decide +kernel)
set_option maxRecDepth 20000 in
set_option maxHeartbeats 4000000 in
theorem gl_X10_ban : GoodIn lw_tbl (wsV RL 97 RX10 yX10_ban wsX10_ban) := goodIn_app (wl_good _ [901, 902, 903, 40] rfl (by decide +kernel)) gh_X10_ban
set_option maxRecDepth 20000 in
set_option maxHeartbeats 4000000 in
theorem gh_X9_breach : GoodIn lw_tbl wsX9_breach := wl_good _ [514, 243, 247, 515, 516, 517, 36, 518, 189, 255, 257, 259, 261, 263, 265, 267, 269, 271, 273, 275, 277, 279, 91, 93, 95, 97, 99, 191] rfl (by decide +kernel)
set_option maxRecDepth 20000 in
set_option maxHeartbeats 4000000 in
theorem gl_X9_breach : GoodIn lw_tbl (wsV RL 98 RX9 yX9_breach wsX9_breach) := goodIn_app (wl_good _ [511, 512, 513, 30] rfl (by decide +kernel)) gh_X9_breach
set_option maxRecDepth 20000 in
set_option maxHeartbeats 4000000 in
theorem gh_X10_breach : GoodIn lw_tbl wsX10_breach := wl_good _ [908, 669, 671, 909, 911, 27, 40, 912, 693, 784, 785, 786, 699, 701, 703, 705, 707, 709, 711, 713, 715, 717, 719, 721, 723, 725, 727, 729, 731, 733, 735, 737, 739, 741, 743, 745, 747, 749, 751, 753, 755, 757, 759, 761] rfl (by decide +kernel)
set_option maxRecDepth 20000 in
set_option maxHeartbeats 4000000 in
theorem gl_X10_breach : GoodIn lw_tbl (wsV RL 101 RX10 yX10_breach wsX10_breach) := goodIn_app (wl_good _ [905, 906, 907, 40] rfl (by decide +kernel)) gh_X10_breach
set_option maxRecDepth 20000 in
set_option maxHeartbeats 4000000 in
theorem gh_X9_least : GoodIn lw_tbl wsX9_least := wl_good _ [522, 243, 247, 300, 302, 0, 30, 303, 515, 516, 517, 36, 518, 189, 316, 318, 1, 319, 244, 242, 253, 320, 321, 322, 33, 323, 109, 111, 115, 113, 324, 325, 326, 31, 327, 58, 328, 329, 330, 331, 332, 333, 334, 335, 63, 60, 523, 524, 525, 498, 399, 41, 400, 401, 402, 403, 255, 257, 259, 261, 263, 265, 267, 269, 271, 273, 275, 277, 279, 91, 93, 95, 97, 99, 191, 117, 119, 121, 123, 67, 69, 71, 73] rfl (by decide +kernel)
set_option maxRecDepth 20000 in
set_option maxHeartbeats 4000000 in
theorem gl_X9_least : GoodIn lw_tbl (wsV RL 102 RX9 yX9_least wsX9_least) := goodIn_app (wl_good _ [519, 520, 521, 30] rfl (by decide +kernel)) gh_X9_least
set_option maxRecDepth 20000 in
set_option maxHeartbeats 4000000 in
theorem gh_X10_least : GoodIn lw_tbl wsX10_least := wl_good _ [916, 671, 776, 778, 15, 40, 779, 669, 769, 770, 771, 795, 797, 18, 798, 784, 785, 786, 799, 801, 19, 802, 678, 679, 680, 677, 681, 674, 675, 673, 909, 911, 27, 912, 693, 894, 895, 896, 699, 701, 703, 705, 707, 709, 711, 713, 715, 717, 719, 721, 723, 725, 727, 729, 731, 733, 735, 737, 739, 741, 743, 745, 747, 749, 751, 753, 755, 757, 759, 761] rfl (by decide +kernel)
set_option maxRecDepth 20000 in
set_option maxHeartbeats 4000000 in
theorem gl_X10_least : GoodIn lw_tbl (wsV RL 105 RX10 yX10_least wsX10_least) := goodIn_app (wl_good _ [913, 914, 915, 40] rfl (by decide +kernel)) gh_X10_least
set_option maxRecDepth 20000 in
set_option maxHeartbeats 4000000 in
theorem gh_X9_badRole : GoodIn lw_tbl wsX9_badRole := wl_good _ [529, 246, 247, 515, 516, 517, 36, 518, 189, 255, 257, 259, 261, 263, 265, 267, 269, 271, 273, 275, 277, 279, 164, 166, 168, 170, 172, 174, 176, 178, 180, 191] rfl (by decide +kernel)
set_option maxRecDepth 20000 in
set_option maxHeartbeats 4000000 in
theorem gl_X9_badRole : GoodIn lw_tbl (wsV RL 106 RX9 yX9_badRole wsX9_badRole) := goodIn_app (wl_good _ [526, 527, 528, 30] rfl (by decide +kernel)) gh_X9_badRole
set_option maxRecDepth 20000 in
set_option maxHeartbeats 4000000 in
theorem gh_X10_badRole : GoodIn lw_tbl wsX10_badRole := wl_good _ [920, 687, 688, 909, 911, 27, 40, 912, 693, 784, 785, 786, 699, 701, 703, 705, 707, 709, 711, 713, 715, 717, 719, 721, 723, 725, 727, 729, 731, 733, 735, 737, 739, 741, 743, 745, 747, 749, 751, 753, 755, 757, 759, 761] rfl (by decide +kernel)
set_option maxRecDepth 20000 in
set_option maxHeartbeats 4000000 in
theorem gl_X10_badRole : GoodIn lw_tbl (wsV RL 109 RX10 yX10_badRole wsX10_badRole) := goodIn_app (wl_good _ [917, 918, 919, 40] rfl (by decide +kernel)) gh_X10_badRole
set_option maxRecDepth 20000 in
set_option maxHeartbeats 4000000 in
theorem gh_X9_plan : GoodIn lw_tbl wsX9_plan := wl_good _ [533, 248, 251, 243, 424, 426, 3, 30, 427, 316, 318, 1, 319, 244, 242, 253, 320, 321, 322, 33, 323, 109, 111, 115, 113, 324, 325, 326, 31, 327, 58, 328, 329, 330, 331, 332, 333, 334, 335, 63, 60, 534, 535, 536, 37, 537, 200, 202, 204, 539, 540, 498, 399, 41, 400, 401, 402, 403, 255, 257, 259, 261, 263, 265, 267, 269, 271, 273, 275, 277, 279, 91, 93, 95, 97, 99, 117, 119, 121, 123, 67, 69, 71, 73, 206, 208, 210] rfl (by decide +kernel)
set_option maxRecDepth 20000 in
set_option maxHeartbeats 4000000 in
theorem gl_X9_plan : GoodIn lw_tbl (wsV RL 110 RX9 yX9_plan wsX9_plan) := goodIn_app (wl_good _ [530, 531, 532, 30] rfl (by decide +kernel)) gh_X9_plan
set_option maxRecDepth 20000 in
set_option maxHeartbeats 4000000 in
theorem gh_X10_plan : GoodIn lw_tbl wsX10_plan := wl_good _ [924, 669, 694, 695, 671, 795, 797, 18, 40, 798, 784, 785, 786, 799, 801, 19, 802, 678, 679, 680, 677, 681, 674, 675, 673, 894, 895, 896, 699, 701, 703, 705, 707, 709, 711, 713, 715, 717, 719, 721, 723, 725, 727, 729, 731, 733, 735, 737, 739, 741, 743, 745, 747, 749, 751, 753, 755, 757, 759, 761] rfl (by decide +kernel)
set_option maxRecDepth 20000 in
set_option maxHeartbeats 4000000 in
theorem gl_X10_plan : GoodIn lw_tbl (wsV RL 114 RX10 yX10_plan wsX10_plan) := goodIn_app (wl_good _ [921, 922, 923, 40] rfl (by decide +kernel)) gh_X10_plan
set_option maxRecDepth 20000 in
set_option maxHeartbeats 4000000 in
theorem gh_X9_takeOut : GoodIn lw_tbl wsX9_takeOut := wl_good _ [544, 248, 300, 302, 0, 30, 303, 243, 356, 357, 358, 545, 546, 547, 37, 548, 204, 255, 257, 259, 261, 263, 265, 267, 269, 271, 273, 275, 277, 279, 206, 208, 210, 91, 93, 95, 97, 99] rfl (by decide +kernel)
set_option maxRecDepth 20000 in
set_option maxHeartbeats 4000000 in
theorem gl_X9_takeOut : GoodIn lw_tbl (wsV RL 115 RX9 yX9_takeOut wsX9_takeOut) := goodIn_app (wl_good _ [541, 542, 543, 30] rfl (by decide +kernel)) gh_X9_takeOut
set_option maxRecDepth 20000 in
set_option maxHeartbeats 4000000 in
theorem gh_X10_takeOut : GoodIn lw_tbl wsX10_takeOut := wl_good _ [928, 694, 695, 776, 778, 15, 40, 779, 669, 769, 770, 771, 819, 820, 821, 784, 785, 786, 699, 701, 703, 705, 707, 709, 711, 713, 715, 717, 719, 721, 723, 725, 727, 729, 731, 733, 735, 737, 739, 741, 743, 745, 747, 749, 751, 753, 755, 757, 759, 761] rfl (by decide +kernel)
set_option maxRecDepth 20000 in
set_option maxHeartbeats 4000000 in
theorem gl_X10_takeOut : GoodIn lw_tbl (wsV RL 118 RX10 yX10_takeOut wsX10_takeOut) := goodIn_app (wl_good _ [925, 926, 927, 40] rfl (by decide +kernel)) gh_X10_takeOut
set_option maxRecDepth 20000 in
set_option maxHeartbeats 4000000 in
theorem gh_X9_stopped : GoodIn lw_tbl wsX9_stopped := wl_good _ [552, 248, 244, 553, 554, 30, 555, 556, 558, 12, 559, 242, 560, 325, 326, 31, 327, 58, 561, 562, 563, 37, 564, 202, 204, 255, 257, 259, 261, 263, 265, 267, 269, 271, 273, 275, 277, 279, 206, 208, 210, 117, 119, 121, 123, 67, 69, 71, 73] rfl (by decide +kernel)
set_option maxRecDepth 20000 in
set_option maxHeartbeats 4000000 in
theorem gl_X9_stopped : GoodIn lw_tbl (wsV RL 119 RX9 yX9_stopped wsX9_stopped) := goodIn_app (wl_good _ [549, 550, 551, 30] rfl (by decide +kernel)) gh_X9_stopped
set_option maxRecDepth 20000 in
set_option maxHeartbeats 4000000 in
theorem gh_X10_stopped : GoodIn lw_tbl wsX10_stopped := wl_good _ [932, 694, 678, 769, 770, 40, 771, 933, 935, 28, 936, 679, 677, 681, 695, 680, 784, 785, 786, 699, 701, 703, 705, 707, 709, 711, 713, 715, 717, 719, 721, 723, 725, 727, 729, 731, 733, 735, 737, 739, 741, 743, 745, 747, 749, 751, 753, 755, 757, 759, 761] rfl (by decide +kernel)
set_option maxRecDepth 20000 in
set_option maxHeartbeats 4000000 in
theorem gl_X10_stopped : GoodIn lw_tbl (wsV RL 122 RX10 yX10_stopped wsX10_stopped) := goodIn_app (wl_good _ [929, 930, 931, 40] rfl (by decide +kernel)) gh_X10_stopped
set_option maxRecDepth 20000 in
set_option maxHeartbeats 4000000 in
theorem gh_X9_stop : GoodIn lw_tbl wsX9_stop := wl_good _ [568, 248, 244, 553, 554, 30, 555, 556, 558, 12, 559, 242, 560, 325, 326, 31, 327, 58, 561, 562, 563, 37, 564, 202, 204, 255, 257, 259, 261, 263, 265, 267, 269, 271, 273, 275, 277, 279, 206, 208, 210, 117, 119, 121, 123, 67, 69, 71, 73] rfl (by decide +kernel)
set_option maxRecDepth 20000 in
set_option maxHeartbeats 4000000 in
theorem gl_X9_stop : GoodIn lw_tbl (wsV RL 123 RX9 yX9_stop wsX9_stop) := goodIn_app (wl_good _ [565, 566, 567, 30] rfl (by decide +kernel)) gh_X9_stop
set_option maxRecDepth 20000 in
set_option maxHeartbeats 4000000 in
theorem gh_X10_stop : GoodIn lw_tbl wsX10_stop := wl_good _ [940, 694, 678, 769, 770, 40, 771, 933, 935, 28, 936, 679, 677, 681, 695, 680, 784, 785, 786, 699, 701, 703, 705, 707, 709, 711, 713, 715, 717, 719, 721, 723, 725, 727, 729, 731, 733, 735, 737, 739, 741, 743, 745, 747, 749, 751, 753, 755, 757, 759, 761] rfl (by decide +kernel)
set_option maxRecDepth 20000 in
set_option maxHeartbeats 4000000 in
theorem gl_X10_stop : GoodIn lw_tbl (wsV RL 126 RX10 yX10_stop wsX10_stop) := goodIn_app (wl_good _ [937, 938, 939, 40] rfl (by decide +kernel)) gh_X10_stop
set_option maxRecDepth 20000 in
set_option maxHeartbeats 4000000 in
theorem gh_X9_used : GoodIn lw_tbl wsX9_used := wl_good _ [572, 244, 255, 257, 259, 261, 263, 265, 267, 269, 271, 273, 275, 277, 279, 117, 119, 121, 123] rfl (by decide +kernel)
set_option maxRecDepth 20000 in
set_option maxHeartbeats 4000000 in
theorem gl_X9_used : GoodIn lw_tbl (wsV RL 127 RX9 yX9_used wsX9_used) := goodIn_app (wl_good _ [569, 570, 571, 30] rfl (by decide +kernel)) gh_X9_used
set_option maxRecDepth 20000 in
set_option maxHeartbeats 4000000 in
theorem gh_X10_used : GoodIn lw_tbl wsX10_used := wl_good _ [944, 678, 679, 680, 681, 769, 770, 40, 771, 699, 701, 703, 705, 707, 709, 711, 713, 715, 717, 719, 721, 723, 725, 727, 729, 731, 733, 735, 737, 739, 741, 743, 745, 747, 749, 751, 753, 755, 757, 759, 761] rfl (by decide +kernel)
set_option maxRecDepth 20000 in
set_option maxHeartbeats 4000000 in
theorem gl_X10_used : GoodIn lw_tbl (wsV RL 130 RX10 yX10_used wsX10_used) := goodIn_app (wl_good _ [941, 942, 943, 40] rfl (by decide +kernel)) gh_X10_used
set_option maxRecDepth 20000 in
set_option maxHeartbeats 4000000 in
theorem gh_X9_apply : GoodIn lw_tbl wsX9_apply := wl_good _ [576, 248, 243, 242, 394, 395, 396, 32, 397, 86, 88, 90, 398, 399, 41, 400, 401, 402, 403, 255, 257, 259, 261, 263, 265, 267, 269, 271, 273, 275, 277, 279, 206, 208, 210, 91, 93, 95, 97, 99, 67, 69, 71, 73] rfl (by decide +kernel)
set_option maxRecDepth 20000 in
set_option maxHeartbeats 4000000 in
theorem gl_X9_apply : GoodIn lw_tbl (wsV RL 131 RX9 yX9_apply wsX9_apply) := goodIn_app (wl_good _ [573, 574, 575, 30] rfl (by decide +kernel)) gh_X9_apply
set_option maxRecDepth 20000 in
set_option maxHeartbeats 4000000 in
theorem gh_X10_apply : GoodIn lw_tbl wsX10_apply := wl_good _ [948, 694, 669, 695, 838, 840, 21, 40, 841, 671, 672, 677, 784, 785, 786, 780, 782, 16, 783, 699, 701, 703, 705, 707, 709, 711, 713, 715, 717, 719, 721, 723, 725, 727, 729, 731, 733, 735, 737, 739, 741, 743, 745, 747, 749, 751, 753, 755, 757, 759, 761] rfl (by decide +kernel)
set_option maxRecDepth 20000 in
set_option maxHeartbeats 4000000 in
theorem gl_X10_apply : GoodIn lw_tbl (wsV RL 134 RX10 yX10_apply wsX10_apply) := goodIn_app (wl_good _ [945, 946, 947, 40] rfl (by decide +kernel)) gh_X10_apply
set_option maxRecDepth 20000 in
set_option maxHeartbeats 4000000 in
theorem gh_X9_sheet : GoodIn lw_tbl wsX9_sheet := wl_good _ [580, 250, 249, 581, 582, 30, 583, 382, 383, 384, 39, 385, 233, 235, 584, 585, 586, 38, 587, 219, 221, 255, 257, 259, 261, 263, 265, 267, 269, 271, 273, 275, 277, 279, 237, 239, 222, 224] rfl (by decide +kernel)
set_option maxRecDepth 20000 in
set_option maxHeartbeats 4000000 in
theorem gl_X9_sheet : GoodIn lw_tbl (wsV RL 135 RX9 yX9_sheet wsX9_sheet) := goodIn_app (wl_good _ [577, 578, 579, 30] rfl (by decide +kernel)) gh_X9_sheet
set_option maxRecDepth 20000 in
set_option maxHeartbeats 4000000 in
theorem gh_X10_sheet : GoodIn lw_tbl wsX10_sheet := wl_good _ [952, 696, 697, 953, 954, 40, 955, 769, 770, 771, 830, 832, 20, 833, 667, 668, 699, 701, 703, 705, 707, 709, 711, 713, 715, 717, 719, 721, 723, 725, 727, 729, 731, 733, 735, 737, 739, 741, 743, 745, 747, 749, 751, 753, 755, 757, 759, 761] rfl (by decide +kernel)
set_option maxRecDepth 20000 in
set_option maxHeartbeats 4000000 in
theorem gl_X10_sheet : GoodIn lw_tbl (wsV RL 138 RX10 yX10_sheet wsX10_sheet) := goodIn_app (wl_good _ [949, 950, 951, 40] rfl (by decide +kernel)) gh_X10_sheet
set_option maxRecDepth 20000 in
set_option maxHeartbeats 4000000 in
theorem gh_X9_save : GoodIn lw_tbl wsX9_save := wl_good _ [591, 249, 250, 243, 581, 582, 30, 583, 592, 593, 594, 38, 595, 219, 382, 383, 384, 39, 385, 233, 235, 596, 597, 598, 599, 600, 601, 42, 602, 221, 255, 257, 259, 261, 263, 265, 267, 269, 271, 273, 275, 277, 279, 91, 93, 95, 97, 99, 222, 224, 237, 239] rfl (by decide +kernel)
set_option maxRecDepth 20000 in
set_option maxHeartbeats 4000000 in
theorem gl_X9_save : GoodIn lw_tbl (wsV RL 139 RX9 yX9_save wsX9_save) := goodIn_app (wl_good _ [588, 589, 590, 30] rfl (by decide +kernel)) gh_X9_save
set_option maxRecDepth 20000 in
set_option maxHeartbeats 4000000 in
theorem gh_X10_save : GoodIn lw_tbl wsX10_save := wl_good _ [959, 696, 669, 697, 671, 953, 954, 40, 955, 769, 770, 771, 830, 832, 20, 833, 667, 668, 699, 701, 703, 705, 707, 709, 711, 713, 715, 717, 719, 721, 723, 725, 727, 729, 731, 733, 735, 737, 739, 741, 743, 745, 747, 749, 751, 753, 755, 757, 759, 761] rfl (by decide +kernel)
set_option maxRecDepth 20000 in
set_option maxHeartbeats 4000000 in
theorem gl_X10_save : GoodIn lw_tbl (wsV RL 142 RX10 yX10_save wsX10_save) := goodIn_app (wl_good _ [956, 957, 958, 40] rfl (by decide +kernel)) gh_X10_save
set_option maxRecDepth 20000 in
set_option maxHeartbeats 4000000 in
theorem gh_X9_load : GoodIn lw_tbl wsX9_load := wl_good _ [606, 249, 250, 243, 581, 582, 30, 583, 300, 302, 0, 303, 592, 593, 594, 38, 595, 219, 382, 383, 384, 39, 385, 233, 235, 607, 608, 609, 610, 221, 308, 309, 310, 32, 311, 86, 88, 255, 257, 259, 261, 263, 265, 267, 269, 271, 273, 275, 277, 279, 222, 224, 91, 93, 95, 97, 99, 237, 239] rfl (by decide +kernel)
set_option maxRecDepth 20000 in
set_option maxHeartbeats 4000000 in
theorem gl_X9_load : GoodIn lw_tbl (wsV RL 143 RX9 yX9_load wsX9_load) := goodIn_app (wl_good _ [603, 604, 605, 30] rfl (by decide +kernel)) gh_X9_load
set_option maxRecDepth 20000 in
set_option maxHeartbeats 4000000 in
theorem gh_X10_load : GoodIn lw_tbl wsX10_load := wl_good _ [963, 696, 697, 953, 954, 40, 955, 769, 770, 771, 776, 778, 15, 779, 669, 830, 832, 20, 833, 667, 668, 780, 782, 16, 783, 671, 672, 784, 785, 786, 699, 701, 703, 705, 707, 709, 711, 713, 715, 717, 719, 721, 723, 725, 727, 729, 731, 733, 735, 737, 739, 741, 743, 745, 747, 749, 751, 753, 755, 757, 759, 761] rfl (by decide +kernel)
set_option maxRecDepth 20000 in
set_option maxHeartbeats 4000000 in
theorem gl_X10_load : GoodIn lw_tbl (wsV RL 146 RX10 yX10_load wsX10_load) := goodIn_app (wl_good _ [960, 961, 962, 40] rfl (by decide +kernel)) gh_X10_load
set_option maxRecDepth 20000 in
set_option maxHeartbeats 4000000 in
theorem gh_X9_tear : GoodIn lw_tbl wsX9_tear := wl_good _ [614, 249, 250, 581, 582, 30, 583, 592, 593, 594, 38, 595, 219, 382, 383, 384, 39, 385, 233, 235, 255, 257, 259, 261, 263, 265, 267, 269, 271, 273, 275, 277, 279, 222, 224, 237, 239] rfl (by decide +kernel)
set_option maxRecDepth 20000 in
set_option maxHeartbeats 4000000 in
theorem gl_X9_tear : GoodIn lw_tbl (wsV RL 147 RX9 yX9_tear wsX9_tear) := goodIn_app (wl_good _ [611, 612, 613, 30] rfl (by decide +kernel)) gh_X9_tear
set_option maxRecDepth 20000 in
set_option maxHeartbeats 4000000 in
theorem gh_X10_tear : GoodIn lw_tbl wsX10_tear := wl_good _ [967, 696, 953, 954, 40, 955, 769, 770, 771, 830, 832, 20, 833, 667, 668, 699, 701, 703, 705, 707, 709, 711, 713, 715, 717, 719, 721, 723, 725, 727, 729, 731, 733, 735, 737, 739, 741, 743, 745, 747, 749, 751, 753, 755, 757, 759, 761] rfl (by decide +kernel)
set_option maxRecDepth 20000 in
set_option maxHeartbeats 4000000 in
theorem gl_X10_tear : GoodIn lw_tbl (wsV RL 150 RX10 yX10_tear wsX10_tear) := goodIn_app (wl_good _ [964, 965, 966, 40] rfl (by decide +kernel)) gh_X10_tear
set_option maxRecDepth 20000 in
set_option maxHeartbeats 4000000 in
theorem gh_X9_copy : GoodIn lw_tbl wsX9_copy := wl_good _ [618, 250, 249, 581, 582, 30, 583, 382, 383, 384, 39, 385, 233, 235, 592, 593, 594, 38, 595, 219, 619, 620, 621, 622, 623, 624, 625, 626, 221, 627, 629, 628, 43, 255, 257, 259, 261, 263, 265, 267, 269, 271, 273, 275, 277, 279, 237, 239, 222, 224] rfl (by decide +kernel)
set_option maxRecDepth 20000 in
set_option maxHeartbeats 4000000 in
theorem gl_X9_copy : GoodIn lw_tbl (wsV RL 151 RX9 yX9_copy wsX9_copy) := goodIn_app (wl_good _ [615, 616, 617, 30] rfl (by decide +kernel)) gh_X9_copy
set_option maxRecDepth 20000 in
set_option maxHeartbeats 4000000 in
theorem gh_X10_copy : GoodIn lw_tbl wsX10_copy := wl_good _ [971, 696, 698, 697, 953, 954, 40, 955, 769, 770, 771, 830, 832, 20, 833, 667, 668, 699, 701, 703, 705, 707, 709, 711, 713, 715, 717, 719, 721, 723, 725, 727, 729, 731, 733, 735, 737, 739, 741, 743, 745, 747, 749, 751, 753, 755, 757, 759, 761] rfl (by decide +kernel)
set_option maxRecDepth 20000 in
set_option maxHeartbeats 4000000 in
theorem gl_X10_copy : GoodIn lw_tbl (wsV RL 155 RX10 yX10_copy wsX10_copy) := goodIn_app (wl_good _ [968, 969, 970, 40] rfl (by decide +kernel)) gh_X10_copy
set_option maxRecDepth 20000 in
set_option maxHeartbeats 4000000 in
theorem gh_X9_asked : GoodIn lw_tbl wsX9_asked := wl_good _ [633, 254, 255, 257, 259, 261, 263, 265, 267, 269, 271, 273, 275, 277, 279] rfl (by decide +kernel)
set_option maxRecDepth 20000 in
set_option maxHeartbeats 4000000 in
theorem gl_X9_asked : GoodIn lw_tbl (wsV RL 156 RX9 yX9_asked wsX9_asked) := goodIn_app (wl_good _ [630, 631, 632, 30] rfl (by decide +kernel)) gh_X9_asked
set_option maxRecDepth 20000 in
set_option maxHeartbeats 4000000 in
theorem gh_X10_asked : GoodIn lw_tbl wsX10_asked := wl_good _ [975, 683, 699, 701, 703, 705, 707, 709, 711, 713, 715, 717, 719, 721, 723, 725, 727, 729, 731, 733, 735, 737, 739, 741, 743, 745, 747, 749, 751, 753, 755, 757, 759, 761] rfl (by decide +kernel)
set_option maxRecDepth 20000 in
set_option maxHeartbeats 4000000 in
theorem gl_X10_asked : GoodIn lw_tbl (wsV RL 159 RX10 yX10_asked wsX10_asked) := goodIn_app (wl_good _ [972, 973, 974, 40] rfl (by decide +kernel)) gh_X10_asked
set_option maxRecDepth 20000 in
set_option maxHeartbeats 4000000 in
theorem gh_X9_count : GoodIn lw_tbl wsX9_count := wl_good _ [637, 243, 242, 244, 251, 247, 638, 539, 30, 540, 498, 399, 41, 400, 401, 402, 403, 424, 426, 3, 427, 316, 318, 1, 319, 253, 320, 321, 322, 33, 323, 109, 111, 115, 113, 324, 325, 326, 31, 327, 58, 328, 329, 330, 331, 332, 333, 334, 335, 63, 60, 255, 257, 259, 261, 263, 265, 267, 269, 271, 273, 275, 277, 279, 91, 93, 95, 97, 99, 67, 69, 71, 73, 117, 119, 121, 123, 191] rfl (by decide +kernel)
set_option maxRecDepth 20000 in
set_option maxHeartbeats 4000000 in
theorem gl_X9_count : GoodIn lw_tbl (wsV RL 160 RX9 yX9_count wsX9_count) := goodIn_app (wl_good _ [634, 635, 636, 30] rfl (by decide +kernel)) gh_X9_count
set_option maxRecDepth 20000 in
set_option maxHeartbeats 4000000 in
theorem gh_X10_count : GoodIn lw_tbl wsX10_count := wl_good _ [979, 669, 677, 678, 671, 693, 894, 895, 40, 896, 795, 797, 18, 798, 784, 785, 786, 799, 801, 19, 802, 679, 680, 681, 674, 675, 673, 699, 701, 703, 705, 707, 709, 711, 713, 715, 717, 719, 721, 723, 725, 727, 729, 731, 733, 735, 737, 739, 741, 743, 745, 747, 749, 751, 753, 755, 757, 759, 761] rfl (by decide +kernel)
set_option maxRecDepth 20000 in
set_option maxHeartbeats 4000000 in
theorem gl_X10_count : GoodIn lw_tbl (wsV RL 163 RX10 yX10_count wsX10_count) := goodIn_app (wl_good _ [976, 977, 978, 40] rfl (by decide +kernel)) gh_X10_count
set_option maxRecDepth 20000 in
set_option maxHeartbeats 4000000 in
theorem gh_X9_finding : GoodIn lw_tbl wsX9_finding := wl_good _ [642, 250, 255, 257, 259, 261, 263, 265, 267, 269, 271, 273, 275, 277, 279, 237, 239] rfl (by decide +kernel)
set_option maxRecDepth 20000 in
set_option maxHeartbeats 4000000 in
theorem gl_X9_finding : GoodIn lw_tbl (wsV RL 164 RX9 yX9_finding wsX9_finding) := goodIn_app (wl_good _ [639, 640, 641, 30] rfl (by decide +kernel)) gh_X9_finding
set_option maxRecDepth 20000 in
set_option maxHeartbeats 4000000 in
theorem gh_X10_finding : GoodIn lw_tbl wsX10_finding := wl_good _ [983, 667, 699, 701, 703, 705, 707, 709, 711, 713, 715, 717, 719, 721, 723, 725, 727, 729, 731, 733, 735, 737, 739, 741, 743, 745, 747, 749, 751, 753, 755, 757, 759, 761] rfl (by decide +kernel)
set_option maxRecDepth 20000 in
set_option maxHeartbeats 4000000 in
theorem gl_X10_finding : GoodIn lw_tbl (wsV RL 167 RX10 yX10_finding wsX10_finding) := goodIn_app (wl_good _ [980, 981, 982, 40] rfl (by decide +kernel)) gh_X10_finding
set_option maxRecDepth 20000 in
set_option maxHeartbeats 4000000 in
theorem gh_X9_findings : GoodIn lw_tbl wsX9_findings := wl_good _ [646, 250, 255, 257, 259, 261, 263, 265, 267, 269, 271, 273, 275, 277, 279, 237, 239] rfl (by decide +kernel)
set_option maxRecDepth 20000 in
set_option maxHeartbeats 4000000 in
theorem gl_X9_findings : GoodIn lw_tbl (wsV RL 168 RX9 yX9_findings wsX9_findings) := goodIn_app (wl_good _ [643, 644, 645, 30] rfl (by decide +kernel)) gh_X9_findings
set_option maxRecDepth 20000 in
set_option maxHeartbeats 4000000 in
theorem gh_X10_findings : GoodIn lw_tbl wsX10_findings := wl_good _ [987, 668, 769, 770, 40, 771, 699, 701, 703, 705, 707, 709, 711, 713, 715, 717, 719, 721, 723, 725, 727, 729, 731, 733, 735, 737, 739, 741, 743, 745, 747, 749, 751, 753, 755, 757, 759, 761] rfl (by decide +kernel)
set_option maxRecDepth 20000 in
set_option maxHeartbeats 4000000 in
theorem gl_X10_findings : GoodIn lw_tbl (wsV RL 171 RX10 yX10_findings wsX10_findings) := goodIn_app (wl_good _ [984, 985, 986, 40] rfl (by decide +kernel)) gh_X10_findings
set_option maxRecDepth 20000 in
set_option maxHeartbeats 4000000 in
theorem gh_X9_digest : GoodIn lw_tbl wsX9_digest := wl_good _ [650, 651, 656, 253, 242, 244, 247, 652, 654, 13, 30, 655, 243, 251, 424, 426, 3, 427, 316, 318, 1, 319, 320, 321, 322, 33, 323, 109, 111, 115, 113, 324, 325, 326, 31, 327, 58, 328, 329, 330, 331, 332, 333, 334, 335, 63, 60, 336, 337, 338, 339, 657, 659, 14, 660, 249, 607, 608, 609, 38, 610, 221, 255, 257, 259, 261, 263, 265, 267, 269, 271, 273, 275, 277, 279, 67, 69, 71, 73, 117, 119, 121, 123, 191, 91, 93, 95, 97, 99, 222, 224] rfl (by decide +kernel)
set_option maxRecDepth 20000 in
set_option maxHeartbeats 4000000 in
theorem gl_X9_digest : GoodIn lw_tbl (wsV RL 172 RX9 yX9_digest wsX9_digest) := goodIn_app (wl_good _ [647, 648, 649, 30] rfl (by decide +kernel)) gh_X9_digest
set_option maxRecDepth 20000 in
set_option maxHeartbeats 4000000 in
theorem gh_X10_digest : GoodIn lw_tbl wsX10_digest := wl_good _ [991, 992, 669, 993, 673, 677, 678, 679, 680, 681, 693, 696, 697, 791, 793, 17, 40, 794, 670, 671, 672, 795, 797, 18, 798, 784, 785, 786, 799, 801, 19, 802, 674, 675, 699, 701, 703, 705, 707, 709, 711, 713, 715, 717, 719, 721, 723, 725, 727, 729, 731, 733, 735, 737, 739, 741, 743, 745, 747, 749, 751, 753, 755, 757, 759, 761] rfl (by decide +kernel)
set_option maxRecDepth 20000 in
set_option maxHeartbeats 4000000 in
theorem gl_X10_digest : GoodIn lw_tbl (wsV RL 176 RX10 yX10_digest wsX10_digest) := goodIn_app (wl_good _ [988, 989, 990, 40] rfl (by decide +kernel)) gh_X10_digest
