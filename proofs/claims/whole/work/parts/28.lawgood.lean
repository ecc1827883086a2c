theorem wl_good {big : List Cond} (ws : List Cond) (ps : List Nat) (hp : ps.filterMap (fun i => big[i]?) = ws) (h : ws.all goodWord = true) : GoodIn big ws := fun w hw => ⟨wl_mem ws ps hp w hw, good_of_word (List.all_eq_true.mp h w hw)⟩
set_option maxRecDepth 20000 in
set_option maxHeartbeats 4000000 in
theorem gh_X9_init : GoodIn lw_tbl wsX9_init := wl_good _ [48, 49, 50, 51, 52, 53, 31, 242, 76, 77, 32, 243, 103, 104, 33, 244, 126, 127, 34, 245, 146, 147, 35, 246, 183, 184, 36, 247, 194, 195, 37, 248, 213, 214, 38, 249, 227, 228, 39, 250, 102, 251, 252, 253, 254, 55, 56, 57, 58, 60, 63, 65, 79, 80, 81, 82, 84, 86, 88, 90, 106, 107, 108, 109, 111, 113, 115, 129, 130, 131, 132, 135, 145, 137, 149, 150, 151, 152, 154, 156, 157, 159, 160, 161, 162, 163, 186, 187, 188, 189, 197, 198, 199, 200, 202, 204, 216, 217, 218, 219, 221, 230, 231, 232, 233, 235, 67, 69, 71, 73, 255, 257, 259, 261, 263, 265, 267, 269, 271, 273, 275, 277, 279, 91, 93, 95, 97, 99, 117, 119, 121, 123, 138, 140, 142, 164, 166, 168, 170, 172, 174, 176, 178, 180, 191, 206, 208, 210, 222, 224, 237, 239] rfl (by decide +kernel)
set_option maxRecDepth 20000 in
set_option maxHeartbeats 4000000 in
theorem gh_X10_init : GoodIn lw_tbl wsX10_init := wl_good _ [666, 667, 50, 51, 102, 669, 671, 672, 673, 675, 676, 677, 680, 681, 682, 683, 685, 765, 686, 689, 690, 691, 692, 694, 695, 696, 697, 698, 699, 700, 702, 704, 706, 708, 710, 712, 714, 716, 718, 720, 722, 724, 726, 728, 730, 732, 734, 736, 738, 740, 742, 744, 746, 748, 750, 752, 754, 756, 758, 760, 762] rfl (by decide +kernel)
set_option maxRecDepth 20000 in
set_option maxHeartbeats 4000000 in
theorem gh_X9_person : GoodIn lw_tbl wsX9_person := wl_good _ [285, 243, 286, 287, 30, 288, 289, 290, 291, 292, 293, 294, 32, 295, 84, 82, 86, 255, 257, 259, 261, 263, 265, 267, 269, 271, 273, 275, 277, 279, 91, 93, 95, 97, 99] rfl (by decide +kernel)
set_option maxRecDepth 20000 in
set_option maxHeartbeats 4000000 in
theorem gl_X9_person : GoodIn lw_tbl (wsV RL 13 RX9 yX9_person wsX9_person) := goodIn_app (wl_good _ [282, 283, 284, 30] rfl (by decide +kernel)) gh_X9_person
set_option maxRecDepth 20000 in
set_option maxHeartbeats 4000000 in
theorem gh_X10_person : GoodIn lw_tbl wsX10_person := wl_good _ [769, 670, 671, 672, 770, 771, 40, 772, 700, 702, 704, 706, 708, 710, 712, 714, 716, 718, 720, 722, 724, 726, 728, 730, 732, 734, 736, 738, 740, 742, 744, 746, 748, 750, 752, 754, 756, 758, 760, 762] rfl (by decide +kernel)
set_option maxRecDepth 20000 in
set_option maxHeartbeats 4000000 in
theorem gl_X10_person : GoodIn lw_tbl (wsV RL 17 RX10 yX10_person wsX10_person) := goodIn_app (wl_good _ [766, 767, 768, 40] rfl (by decide +kernel)) gh_X10_person
set_option maxRecDepth 20000 in
set_option maxHeartbeats 4000000 in
theorem gh_X9_change : GoodIn lw_tbl wsX9_change := wl_good _ [299, 243, 300, 302, 0, 30, 303, 286, 287, 288, 304, 305, 306, 32, 307, 84, 289, 290, 291, 308, 309, 310, 311, 86, 88, 255, 257, 259, 261, 263, 265, 267, 269, 271, 273, 275, 277, 279, 91, 93, 95, 97, 99] rfl (by decide +kernel)
set_option maxRecDepth 20000 in
set_option maxHeartbeats 4000000 in
theorem gl_X9_change : GoodIn lw_tbl (wsV RL 18 RX9 yX9_change wsX9_change) := goodIn_app (wl_good _ [296, 297, 298, 30] rfl (by decide +kernel)) gh_X9_change
set_option maxRecDepth 20000 in
set_option maxHeartbeats 4000000 in
theorem gh_X10_change : GoodIn lw_tbl wsX10_change := wl_good _ [776, 671, 777, 779, 15, 40, 780, 670, 770, 771, 772, 781, 783, 16, 784, 672, 673, 785, 786, 787, 700, 702, 704, 706, 708, 710, 712, 714, 716, 718, 720, 722, 724, 726, 728, 730, 732, 734, 736, 738, 740, 742, 744, 746, 748, 750, 752, 754, 756, 758, 760, 762] rfl (by decide +kernel)
set_option maxRecDepth 20000 in
set_option maxHeartbeats 4000000 in
theorem gl_X10_change : GoodIn lw_tbl (wsV RL 22 RX10 yX10_change wsX10_change) := goodIn_app (wl_good _ [773, 774, 775, 40] rfl (by decide +kernel)) gh_X10_change
set_option maxRecDepth 20000 in
set_option maxHeartbeats 4000000 in
theorem gh_X9_told : GoodIn lw_tbl wsX9_told := wl_good _ [315, 243, 244, 300, 302, 0, 30, 303, 316, 318, 1, 319, 242, 253, 320, 321, 322, 33, 323, 109, 111, 115, 113, 324, 325, 326, 31, 327, 58, 328, 329, 330, 331, 332, 333, 334, 335, 63, 60, 336, 337, 338, 339, 255, 257, 259, 261, 263, 265, 267, 269, 271, 273, 275, 277, 279, 91, 93, 95, 97, 99, 117, 119, 121, 123, 67, 69, 71, 73] rfl (by decide +kernel)
set_option maxRecDepth 20000 in
set_option maxHeartbeats 4000000 in
theorem gl_X9_told : GoodIn lw_tbl (wsV RL 23 RX9 yX9_told wsX9_told) := goodIn_app (wl_good _ [312, 313, 314, 30] rfl (by decide +kernel)) gh_X9_told
set_option maxRecDepth 20000 in
set_option maxHeartbeats 4000000 in
theorem gh_X10_told : GoodIn lw_tbl wsX10_told := wl_good _ [791, 777, 779, 15, 40, 780, 670, 770, 771, 772, 792, 794, 17, 795, 671, 672, 673, 679, 680, 796, 798, 18, 799, 785, 786, 787, 800, 802, 19, 803, 681, 678, 682, 675, 676, 674, 700, 702, 704, 706, 708, 710, 712, 714, 716, 718, 720, 722, 724, 726, 728, 730, 732, 734, 736, 738, 740, 742, 744, 746, 748, 750, 752, 754, 756, 758, 760, 762] rfl (by decide +kernel)
set_option maxRecDepth 20000 in
set_option maxHeartbeats 4000000 in
theorem gl_X10_told : GoodIn lw_tbl (wsV RL 26 RX10 yX10_told wsX10_told) := goodIn_app (wl_good _ [788, 789, 790, 40] rfl (by decide +kernel)) gh_X10_told
set_option maxRecDepth 20000 in
set_option maxHeartbeats 4000000 in
theorem gh_X9_standby : GoodIn lw_tbl wsX9_standby := wl_good _ [343, 253, 289, 290, 30, 291, 255, 257, 259, 261, 263, 265, 267, 269, 271, 273, 275, 277, 279] rfl (by decide +kernel)
set_option maxRecDepth 20000 in
set_option maxHeartbeats 4000000 in
theorem gl_X9_standby : GoodIn lw_tbl (wsV RL 27 RX9 yX9_standby wsX9_standby) := goodIn_app (wl_good _ [340, 341, 342, 30] rfl (by decide +kernel)) gh_X9_standby
set_option maxRecDepth 20000 in
set_option maxHeartbeats 4000000 in
theorem gh_X10_standby : GoodIn lw_tbl wsX10_standby := wl_good _ [807, 674, 770, 771, 40, 772, 700, 702, 704, 706, 708, 710, 712, 714, 716, 718, 720, 722, 724, 726, 728, 730, 732, 734, 736, 738, 740, 742, 744, 746, 748, 750, 752, 754, 756, 758, 760, 762] rfl (by decide +kernel)
set_option maxRecDepth 20000 in
set_option maxHeartbeats 4000000 in
theorem gl_X10_standby : GoodIn lw_tbl (wsV RL 31 RX10 yX10_standby wsX10_standby) := goodIn_app (wl_good _ [804, 805, 806, 40] rfl (by decide +kernel)) gh_X10_standby
set_option maxRecDepth 20000 in
set_option maxHeartbeats 4000000 in
theorem gh_X9_rule : GoodIn lw_tbl wsX9_rule := wl_good _ [347, 242, 255, 257, 259, 261, 263, 265, 267, 269, 271, 273, 275, 277, 279, 67, 69, 71, 73] rfl (by decide +kernel)
set_option maxRecDepth 20000 in
set_option maxHeartbeats 4000000 in
theorem gl_X9_rule : GoodIn lw_tbl (wsV RL 32 RX9 yX9_rule wsX9_rule) := goodIn_app (wl_good _ [344, 345, 346, 30] rfl (by decide +kernel)) gh_X9_rule
set_option maxRecDepth 20000 in
set_option maxHeartbeats 4000000 in
theorem gh_X10_rule : GoodIn lw_tbl wsX10_rule := wl_good _ [811, 675, 676, 677, 770, 771, 40, 772, 700, 702, 704, 706, 708, 710, 712, 714, 716, 718, 720, 722, 724, 726, 728, 730, 732, 734, 736, 738, 740, 742, 744, 746, 748, 750, 752, 754, 756, 758, 760, 762] rfl (by decide +kernel)
set_option maxRecDepth 20000 in
set_option maxHeartbeats 4000000 in
theorem gl_X10_rule : GoodIn lw_tbl (wsV RL 35 RX10 yX10_rule wsX10_rule) := goodIn_app (wl_good _ [808, 809, 810, 40] rfl (by decide +kernel)) gh_X10_rule
set_option maxRecDepth 20000 in
set_option maxHeartbeats 4000000 in
theorem gh_X9_later : GoodIn lw_tbl wsX9_later := wl_good _ [351, 242, 255, 257, 259, 261, 263, 265, 267, 269, 271, 273, 275, 277, 279, 67, 69, 71, 73] rfl (by decide +kernel)
set_option maxRecDepth 20000 in
set_option maxHeartbeats 4000000 in
theorem gl_X9_later : GoodIn lw_tbl (wsV RL 36 RX9 yX9_later wsX9_later) := goodIn_app (wl_good _ [348, 349, 350, 30] rfl (by decide +kernel)) gh_X9_later
set_option maxRecDepth 20000 in
set_option maxHeartbeats 4000000 in
theorem gh_X10_later : GoodIn lw_tbl wsX10_later := wl_good _ [815, 678, 700, 702, 704, 706, 708, 710, 712, 714, 716, 718, 720, 722, 724, 726, 728, 730, 732, 734, 736, 738, 740, 742, 744, 746, 748, 750, 752, 754, 756, 758, 760, 762] rfl (by decide +kernel)
set_option maxRecDepth 20000 in
set_option maxHeartbeats 4000000 in
theorem gl_X10_later : GoodIn lw_tbl (wsV RL 39 RX10 yX10_later wsX10_later) := goodIn_app (wl_good _ [812, 813, 814, 40] rfl (by decide +kernel)) gh_X10_later
set_option maxRecDepth 20000 in
set_option maxHeartbeats 4000000 in
theorem gh_X9_use : GoodIn lw_tbl wsX9_use := wl_good _ [355, 242, 244, 243, 300, 302, 0, 30, 303, 356, 357, 358, 359, 360, 361, 32, 362, 86, 363, 364, 365, 33, 366, 111, 109, 113, 115, 255, 257, 259, 261, 263, 265, 267, 269, 271, 273, 275, 277, 279, 67, 69, 71, 73, 117, 119, 121, 123, 91, 93, 95, 97, 99] rfl (by decide +kernel)
set_option maxRecDepth 20000 in
set_option maxHeartbeats 4000000 in
theorem gl_X9_use : GoodIn lw_tbl (wsV RL 40 RX9 yX9_use wsX9_use) := goodIn_app (wl_good _ [352, 353, 354, 30] rfl (by decide +kernel)) gh_X9_use
set_option maxRecDepth 20000 in
set_option maxHeartbeats 4000000 in
theorem gh_X10_use : GoodIn lw_tbl wsX10_use := wl_good _ [819, 678, 679, 672, 680, 681, 682, 777, 779, 15, 40, 780, 670, 770, 771, 772, 820, 821, 822, 785, 786, 787, 700, 702, 704, 706, 708, 710, 712, 714, 716, 718, 720, 722, 724, 726, 728, 730, 732, 734, 736, 738, 740, 742, 744, 746, 748, 750, 752, 754, 756, 758, 760, 762] rfl (by decide +kernel)
set_option maxRecDepth 20000 in
set_option maxHeartbeats 4000000 in
theorem gl_X10_use : GoodIn lw_tbl (wsV RL 43 RX10 yX10_use wsX10_use) := goodIn_app (wl_good _ [816, 817, 818, 40] rfl (by decide +kernel)) gh_X10_use
set_option maxRecDepth 20000 in
set_option maxHeartbeats 4000000 in
theorem gh_X9_kind : GoodIn lw_tbl wsX9_kind := wl_good _ [370, 243, 300, 302, 0, 30, 303, 356, 357, 358, 359, 360, 361, 32, 362, 86, 371, 373, 2, 374, 244, 242, 253, 320, 321, 322, 33, 323, 109, 111, 115, 113, 324, 325, 326, 31, 327, 58, 328, 329, 330, 331, 332, 333, 334, 335, 63, 60, 255, 257, 259, 261, 263, 265, 267, 269, 271, 273, 275, 277, 279, 91, 93, 95, 97, 99, 117, 119, 121, 123, 67, 69, 71, 73] rfl (by decide +kernel)
set_option maxRecDepth 20000 in
set_option maxHeartbeats 4000000 in
theorem gl_X9_kind : GoodIn lw_tbl (wsV RL 44 RX9 yX9_kind wsX9_kind) := goodIn_app (wl_good _ [367, 368, 369, 30] rfl (by decide +kernel)) gh_X9_kind
set_option maxRecDepth 20000 in
set_option maxHeartbeats 4000000 in
theorem gh_X10_kind : GoodIn lw_tbl wsX10_kind := wl_good _ [826, 672, 777, 779, 15, 40, 780, 670, 770, 771, 772, 820, 821, 822, 785, 786, 787, 800, 802, 19, 803, 679, 680, 681, 678, 682, 675, 676, 674, 700, 702, 704, 706, 708, 710, 712, 714, 716, 718, 720, 722, 724, 726, 728, 730, 732, 734, 736, 738, 740, 742, 744, 746, 748, 750, 752, 754, 756, 758, 760, 762] rfl (by decide +kernel)
set_option maxRecDepth 20000 in
set_option maxHeartbeats 4000000 in
theorem gl_X10_kind : GoodIn lw_tbl (wsV RL 47 RX10 yX10_kind wsX10_kind) := goodIn_app (wl_good _ [823, 824, 825, 40] rfl (by decide +kernel)) gh_X10_kind
set_option maxRecDepth 20000 in
set_option maxHeartbeats 4000000 in
theorem gh_X9_uses : GoodIn lw_tbl wsX9_uses := wl_good _ [378, 243, 250, 244, 300, 302, 0, 30, 303, 356, 357, 358, 359, 360, 361, 32, 362, 86, 371, 373, 2, 374, 242, 253, 320, 321, 322, 33, 323, 109, 111, 115, 113, 324, 325, 326, 31, 327, 58, 328, 329, 330, 331, 332, 333, 334, 335, 63, 60, 379, 380, 381, 382, 383, 384, 39, 385, 233, 235, 386, 387, 388, 389, 255, 257, 259, 261, 263, 265, 267, 269, 271, 273, 275, 277, 279, 91, 93, 95, 97, 99, 117, 119, 121, 123, 67, 69, 71, 73, 237, 239] rfl (by decide +kernel)
set_option maxRecDepth 20000 in
set_option maxHeartbeats 4000000 in
theorem gl_X9_uses : GoodIn lw_tbl (wsV RL 48 RX9 yX9_uses wsX9_uses) := goodIn_app (wl_good _ [375, 376, 377, 30] rfl (by decide +kernel)) gh_X9_uses
set_option maxRecDepth 20000 in
set_option maxHeartbeats 4000000 in
theorem gh_X10_uses : GoodIn lw_tbl wsX10_uses := wl_good _ [830, 672, 679, 680, 681, 777, 779, 15, 40, 780, 670, 770, 771, 772, 820, 821, 822, 785, 786, 787, 800, 802, 19, 803, 678, 682, 675, 676, 674, 831, 833, 20, 834, 668, 669, 700, 702, 704, 706, 708, 710, 712, 714, 716, 718, 720, 722, 724, 726, 728, 730, 732, 734, 736, 738, 740, 742, 744, 746, 748, 750, 752, 754, 756, 758, 760, 762] rfl (by decide +kernel)
set_option maxRecDepth 20000 in
set_option maxHeartbeats 4000000 in
theorem gl_X10_uses : GoodIn lw_tbl (wsV RL 51 RX10 yX10_uses wsX10_uses) := goodIn_app (wl_good _ [827, 828, 829, 40] rfl (by decide +kernel)) gh_X10_uses
set_option maxRecDepth 20000 in
set_option maxHeartbeats 4000000 in
theorem gh_X9_strike : GoodIn lw_tbl wsX9_strike := wl_good _ [393, 243, 242, 300, 302, 0, 30, 303, 316, 318, 1, 319, 244, 253, 320, 321, 322, 33, 323, 109, 111, 115, 113, 324, 325, 326, 31, 327, 58, 328, 329, 330, 331, 332, 333, 334, 335, 63, 60, 394, 395, 396, 32, 397, 86, 88, 90, 398, 399, 41, 400, 401, 402, 403, 255, 257, 259, 261, 263, 265, 267, 269, 271, 273, 275, 277, 279, 67, 69, 71, 73, 91, 93, 95, 97, 99, 117, 119, 121, 123] rfl (by decide +kernel)
set_option maxRecDepth 20000 in
set_option maxHeartbeats 4000000 in
theorem gl_X9_strike : GoodIn lw_tbl (wsV RL 52 RX9 yX9_strike wsX9_strike) := goodIn_app (wl_good _ [390, 391, 392, 30] rfl (by decide +kernel)) gh_X9_strike
set_option maxRecDepth 20000 in
set_option maxHeartbeats 4000000 in
theorem gh_X10_strike : GoodIn lw_tbl wsX10_strike := wl_good _ [838, 777, 779, 15, 40, 780, 670, 770, 771, 772, 796, 798, 18, 799, 672, 785, 786, 787, 800, 802, 19, 803, 679, 680, 681, 678, 682, 675, 676, 674, 839, 841, 21, 842, 673, 700, 702, 704, 706, 708, 710, 712, 714, 716, 718, 720, 722, 724, 726, 728, 730, 732, 734, 736, 738, 740, 742, 744, 746, 748, 750, 752, 754, 756, 758, 760, 762] rfl (by decide +kernel)
set_option maxRecDepth 20000 in
set_option maxHeartbeats 4000000 in
theorem gl_X10_strike : GoodIn lw_tbl (wsV RL 55 RX10 yX10_strike wsX10_strike) := goodIn_app (wl_good _ [835, 836, 837, 40] rfl (by decide +kernel)) gh_X10_strike
set_option maxRecDepth 20000 in
set_option maxHeartbeats 4000000 in
theorem gh_X9_ask : GoodIn lw_tbl wsX9_ask := wl_good _ [407, 243, 242, 252, 300, 302, 0, 30, 303, 356, 357, 358, 408, 409, 410, 32, 411, 86, 88, 90, 412, 413, 414, 31, 415, 58, 65, 416, 309, 310, 311, 255, 257, 259, 261, 263, 265, 267, 269, 271, 273, 275, 277, 279, 91, 93, 95, 97, 99, 67, 69, 71, 73] rfl (by decide +kernel)
set_option maxRecDepth 20000 in
set_option maxHeartbeats 4000000 in
theorem gl_X9_ask : GoodIn lw_tbl (wsV RL 56 RX9 yX9_ask wsX9_ask) := goodIn_app (wl_good _ [404, 405, 406, 30] rfl (by decide +kernel)) gh_X9_ask
set_option maxRecDepth 20000 in
set_option maxHeartbeats 4000000 in
theorem gh_X10_ask : GoodIn lw_tbl wsX10_ask := wl_good _ [846, 673, 672, 678, 677, 683, 777, 779, 15, 40, 780, 670, 770, 771, 772, 820, 821, 822, 785, 786, 787, 700, 702, 704, 706, 708, 710, 712, 714, 716, 718, 720, 722, 724, 726, 728, 730, 732, 734, 736, 738, 740, 742, 744, 746, 748, 750, 752, 754, 756, 758, 760, 762] rfl (by decide +kernel)
set_option maxRecDepth 20000 in
set_option maxHeartbeats 4000000 in
theorem gl_X10_ask : GoodIn lw_tbl (wsV RL 59 RX10 yX10_ask wsX10_ask) := goodIn_app (wl_good _ [843, 844, 845, 40] rfl (by decide +kernel)) gh_X10_ask
set_option maxRecDepth 20000 in
set_option maxHeartbeats 4000000 in
theorem gh_X9_asks : GoodIn lw_tbl wsX9_asks := wl_good _ [420, 252, 255, 257, 259, 261, 263, 265, 267, 269, 271, 273, 275, 277, 279] rfl (by decide +kernel)
set_option maxRecDepth 20000 in
set_option maxHeartbeats 4000000 in
theorem gl_X9_asks : GoodIn lw_tbl (wsV RL 60 RX9 yX9_asks wsX9_asks) := goodIn_app (wl_good _ [417, 418, 419, 30] rfl (by decide +kernel)) gh_X9_asks
set_option maxRecDepth 20000 in
set_option maxHeartbeats 4000000 in
theorem gh_X10_asks : GoodIn lw_tbl wsX10_asks := wl_good _ [850, 683, 770, 771, 40, 772, 700, 702, 704, 706, 708, 710, 712, 714, 716, 718, 720, 722, 724, 726, 728, 730, 732, 734, 736, 738, 740, 742, 744, 746, 748, 750, 752, 754, 756, 758, 760, 762] rfl (by decide +kernel)
set_option maxRecDepth 20000 in
set_option maxHeartbeats 4000000 in
theorem gl_X10_asks : GoodIn lw_tbl (wsV RL 63 RX10 yX10_asks wsX10_asks) := goodIn_app (wl_good _ [847, 848, 849, 40] rfl (by decide +kernel)) gh_X10_asks
set_option maxRecDepth 20000 in
set_option maxHeartbeats 4000000 in
theorem gh_X9_candidates : GoodIn lw_tbl wsX9_candidates := wl_good _ [424, 245, 251, 243, 425, 427, 3, 30, 428, 316, 318, 1, 319, 244, 242, 253, 320, 321, 322, 33, 323, 109, 111, 115, 113, 324, 325, 326, 31, 327, 58, 328, 329, 330, 331, 332, 333, 334, 335, 63, 60, 429, 430, 431, 34, 432, 137, 132, 135, 433, 435, 4, 436, 437, 439, 5, 440, 441, 443, 6, 444, 255, 257, 259, 261, 263, 265, 267, 269, 271, 273, 275, 277, 279, 91, 93, 95, 97, 99, 138, 140, 142, 117, 119, 121, 123, 67, 69, 71, 73] rfl (by decide +kernel)
set_option maxRecDepth 20000 in
set_option maxHeartbeats 4000000 in
theorem gl_X9_candidates : GoodIn lw_tbl (wsV RL 64 RX9 yX9_candidates wsX9_candidates) := goodIn_app (wl_good _ [421, 422, 423, 30] rfl (by decide +kernel)) gh_X9_candidates
set_option maxRecDepth 20000 in
set_option maxHeartbeats 4000000 in
theorem gh_X10_candidates : GoodIn lw_tbl wsX10_candidates := wl_good _ [854, 855, 857, 22, 40, 858, 686, 670, 685, 796, 798, 18, 799, 672, 785, 786, 787, 800, 802, 19, 803, 679, 680, 681, 678, 682, 675, 676, 674, 700, 702, 704, 706, 708, 710, 712, 714, 716, 718, 720, 722, 724, 726, 728, 730, 732, 734, 736, 738, 740, 742, 744, 746, 748, 750, 752, 754, 756, 758, 760, 762] rfl (by decide +kernel)
set_option maxRecDepth 20000 in
set_option maxHeartbeats 4000000 in
theorem gl_X10_candidates : GoodIn lw_tbl (wsV RL 68 RX10 yX10_candidates wsX10_candidates) := goodIn_app (wl_good _ [851, 852, 853, 40] rfl (by decide +kernel)) gh_X10_candidates
set_option maxRecDepth 20000 in
set_option maxHeartbeats 4000000 in
theorem gh_X9_roles : GoodIn lw_tbl wsX9_roles := wl_good _ [448, 245, 251, 243, 246, 425, 427, 3, 30, 428, 316, 318, 1, 319, 244, 242, 253, 320, 321, 322, 33, 323, 109, 111, 115, 113, 324, 325, 326, 31, 327, 58, 328, 329, 330, 331, 332, 333, 334, 335, 63, 60, 429, 430, 431, 34, 432, 137, 132, 135, 433, 435, 4, 436, 437, 439, 5, 440, 441, 443, 6, 444, 449, 450, 451, 35, 452, 156, 461, 154, 159, 152, 453, 455, 7, 456, 163, 457, 459, 8, 460, 160, 161, 162, 462, 464, 9, 465, 466, 468, 10, 469, 470, 472, 11, 473, 157, 255, 257, 259, 261, 263, 265, 267, 269, 271, 273, 275, 277, 279, 91, 93, 95, 97, 99, 164, 166, 168, 170, 172, 174, 176, 178, 180, 117, 119, 121, 123, 67, 69, 71, 73, 138, 140, 142] rfl (by decide +kernel)
set_option maxRecDepth 20000 in
set_option maxHeartbeats 4000000 in
theorem gl_X9_roles : GoodIn lw_tbl (wsV RL 69 RX9 yX9_roles wsX9_roles) := goodIn_app (wl_good _ [445, 446, 447, 30] rfl (by decide +kernel)) gh_X9_roles
set_option maxRecDepth 20000 in
set_option maxHeartbeats 4000000 in
theorem gh_X10_roles : GoodIn lw_tbl wsX10_roles := wl_good _ [862, 687, 688, 693, 689, 690, 770, 771, 40, 772, 855, 857, 22, 858, 686, 670, 685, 796, 798, 18, 799, 672, 785, 786, 787, 800, 802, 19, 803, 679, 680, 681, 678, 682, 675, 676, 674, 863, 865, 23, 866, 867, 869, 24, 870, 692, 691, 871, 873, 25, 874, 700, 702, 704, 706, 708, 710, 712, 714, 716, 718, 720, 722, 724, 726, 728, 730, 732, 734, 736, 738, 740, 742, 744, 746, 748, 750, 752, 754, 756, 758, 760, 762] rfl (by decide +kernel)
set_option maxRecDepth 20000 in
set_option maxHeartbeats 4000000 in
theorem gl_X10_roles : GoodIn lw_tbl (wsV RL 72 RX10 yX10_roles wsX10_roles) := goodIn_app (wl_good _ [859, 860, 861, 40] rfl (by decide +kernel)) gh_X10_roles
set_option maxRecDepth 20000 in
set_option maxHeartbeats 4000000 in
theorem gh_X9_tries : GoodIn lw_tbl wsX9_tries := wl_good _ [477, 246, 255, 257, 259, 261, 263, 265, 267, 269, 271, 273, 275, 277, 279, 164, 166, 168, 170, 172, 174, 176, 178, 180] rfl (by decide +kernel)
set_option maxRecDepth 20000 in
set_option maxHeartbeats 4000000 in
theorem gl_X9_tries : GoodIn lw_tbl (wsV RL 73 RX9 yX9_tries wsX9_tries) := goodIn_app (wl_good _ [474, 475, 476, 30] rfl (by decide +kernel)) gh_X9_tries
set_option maxRecDepth 20000 in
set_option maxHeartbeats 4000000 in
theorem gh_X10_tries : GoodIn lw_tbl wsX10_tries := wl_good _ [878, 687, 700, 702, 704, 706, 708, 710, 712, 714, 716, 718, 720, 722, 724, 726, 728, 730, 732, 734, 736, 738, 740, 742, 744, 746, 748, 750, 752, 754, 756, 758, 760, 762] rfl (by decide +kernel)
set_option maxRecDepth 20000 in
set_option maxHeartbeats 4000000 in
theorem gl_X10_tries : GoodIn lw_tbl (wsV RL 76 RX10 yX10_tries wsX10_tries) := goodIn_app (wl_good _ [875, 876, 877, 40] rfl (by decide +kernel)) gh_X10_tries
set_option maxRecDepth 20000 in
set_option maxHeartbeats 4000000 in
theorem gh_X9_role : GoodIn lw_tbl wsX9_role := wl_good _ [481, 246, 255, 257, 259, 261, 263, 265, 267, 269, 271, 273, 275, 277, 279, 164, 166, 168, 170, 172, 174, 176, 178, 180] rfl (by decide +kernel)
set_option maxRecDepth 20000 in
set_option maxHeartbeats 4000000 in
theorem gl_X9_role : GoodIn lw_tbl (wsV RL 77 RX9 yX9_role wsX9_role) := goodIn_app (wl_good _ [478, 479, 480, 30] rfl (by decide +kernel)) gh_X9_role
set_option maxRecDepth 20000 in
set_option maxHeartbeats 4000000 in
theorem gh_X10_role : GoodIn lw_tbl wsX10_role := wl_good _ [882, 688, 689, 770, 771, 40, 772, 700, 702, 704, 706, 708, 710, 712, 714, 716, 718, 720, 722, 724, 726, 728, 730, 732, 734, 736, 738, 740, 742, 744, 746, 748, 750, 752, 754, 756, 758, 760, 762] rfl (by decide +kernel)
set_option maxRecDepth 20000 in
set_option maxHeartbeats 4000000 in
theorem gl_X10_role : GoodIn lw_tbl (wsV RL 80 RX10 yX10_role wsX10_role) := goodIn_app (wl_good _ [879, 880, 881, 40] rfl (by decide +kernel)) gh_X10_role
set_option maxRecDepth 20000 in
set_option maxHeartbeats 4000000 in
theorem gh_X9_rolesOf : GoodIn lw_tbl wsX9_rolesOf := wl_good _ [485, 246, 300, 302, 0, 30, 303, 243, 316, 318, 1, 319, 244, 242, 253, 320, 321, 322, 33, 323, 109, 111, 115, 113, 324, 325, 326, 31, 327, 58, 328, 329, 330, 331, 332, 333, 334, 335, 63, 60, 486, 487, 488, 35, 489, 152, 157, 255, 257, 259, 261, 263, 265, 267, 269, 271, 273, 275, 277, 279, 91, 93, 95, 97, 99, 117, 119, 121, 123, 67, 69, 71, 73, 164, 166, 168, 170, 172, 174, 176, 178, 180] rfl (by decide +kernel)
set_option maxRecDepth 20000 in
set_option maxHeartbeats 4000000 in
theorem gl_X9_rolesOf : GoodIn lw_tbl (wsV RL 81 RX9 yX9_rolesOf wsX9_rolesOf) := goodIn_app (wl_good _ [482, 483, 484, 30] rfl (by decide +kernel)) gh_X9_rolesOf
set_option maxRecDepth 20000 in
set_option maxHeartbeats 4000000 in
theorem gh_X10_rolesOf : GoodIn lw_tbl wsX10_rolesOf := wl_good _ [886, 688, 689, 777, 779, 15, 40, 780, 670, 770, 771, 772, 796, 798, 18, 799, 672, 785, 786, 787, 800, 802, 19, 803, 679, 680, 681, 678, 682, 675, 676, 674, 700, 702, 704, 706, 708, 710, 712, 714, 716, 718, 720, 722, 724, 726, 728, 730, 732, 734, 736, 738, 740, 742, 744, 746, 748, 750, 752, 754, 756, 758, 760, 762] rfl (by decide +kernel)
set_option maxRecDepth 20000 in
set_option maxHeartbeats 4000000 in
theorem gl_X10_rolesOf : GoodIn lw_tbl (wsV RL 84 RX10 yX10_rolesOf wsX10_rolesOf) := goodIn_app (wl_good _ [883, 884, 885, 40] rfl (by decide +kernel)) gh_X10_rolesOf
set_option maxRecDepth 20000 in
set_option maxHeartbeats 4000000 in
theorem gh_X9_marksOf : GoodIn lw_tbl wsX9_marksOf := wl_good _ [493, 243, 254, 356, 357, 30, 358, 494, 495, 496, 32, 497, 82, 84, 498, 360, 361, 362, 86, 499, 399, 41, 400, 401, 402, 403, 255, 257, 259, 261, 263, 265, 267, 269, 271, 273, 275, 277, 279, 91, 93, 95, 97, 99] rfl (by decide +kernel)
set_option maxRecDepth 20000 in
set_option maxHeartbeats 4000000 in
theorem gl_X9_marksOf : GoodIn lw_tbl (wsV RL 85 RX9 yX9_marksOf wsX9_marksOf) := goodIn_app (wl_good _ [490, 491, 492, 30] rfl (by decide +kernel)) gh_X9_marksOf
set_option maxRecDepth 20000 in
set_option maxHeartbeats 4000000 in
theorem gh_X10_marksOf : GoodIn lw_tbl wsX10_marksOf := wl_good _ [890, 670, 684, 820, 821, 40, 822, 770, 771, 772, 891, 893, 26, 894, 671, 672, 785, 786, 787, 895, 896, 897, 700, 702, 704, 706, 708, 710, 712, 714, 716, 718, 720, 722, 724, 726, 728, 730, 732, 734, 736, 738, 740, 742, 744, 746, 748, 750, 752, 754, 756, 758, 760, 762] rfl (by decide +kernel)
set_option maxRecDepth 20000 in
set_option maxHeartbeats 4000000 in
theorem gl_X10_marksOf : GoodIn lw_tbl (wsV RL 88 RX10 yX10_marksOf wsX10_marksOf) := goodIn_app (wl_good _ [887, 888, 889, 40] rfl (by decide +kernel)) gh_X10_marksOf
set_option maxRecDepth 20000 in
set_option maxHeartbeats 4000000 in
theorem gh_X9_exceptions : GoodIn lw_tbl wsX9_exceptions := wl_good _ [503, 243, 356, 357, 30, 358, 286, 287, 288, 494, 495, 496, 32, 497, 82, 84, 498, 360, 361, 362, 86, 255, 257, 259, 261, 263, 265, 267, 269, 271, 273, 275, 277, 279, 91, 93, 95, 97, 99] rfl (by decide +kernel)
set_option maxRecDepth 20000 in
set_option maxHeartbeats 4000000 in
theorem gl_X9_exceptions : GoodIn lw_tbl (wsV RL 89 RX9 yX9_exceptions wsX9_exceptions) := goodIn_app (wl_good _ [500, 501, 502, 30] rfl (by decide +kernel)) gh_X9_exceptions
set_option maxRecDepth 20000 in
set_option maxHeartbeats 4000000 in
theorem gh_X10_exceptions : GoodIn lw_tbl wsX10_exceptions := wl_good _ [901, 820, 821, 40, 822, 770, 771, 772, 891, 893, 26, 894, 670, 671, 672, 785, 786, 787, 700, 702, 704, 706, 708, 710, 712, 714, 716, 718, 720, 722, 724, 726, 728, 730, 732, 734, 736, 738, 740, 742, 744, 746, 748, 750, 752, 754, 756, 758, 760, 762] rfl (by decide +kernel)
set_option maxRecDepth 20000 in
set_option maxHeartbeats 4000000 in
theorem gl_X10_exceptions : GoodIn lw_tbl (wsV RL 92 RX10 yX10_exceptions wsX10_exceptions) := goodIn_app (wl_good _ [898, 899, 900, 40] rfl (by decide +kernel)) gh_X10_exceptions
set_option maxRecDepth 20000 in
set_option maxHeartbeats 4000000 in
theorem gh_X9_ban : GoodIn lw_tbl wsX9_ban := wl_good _ [507, 247, 356, 357, 30, 358, 508, 509, 510, 36, 511, 189, 255, 257, 259, 261, 263, 265, 267, 269, 271, 273, 275, 277, 279, 191] rfl (by decide +kernel)
set_option maxRecDepth 20000 in
set_option maxHeartbeats 4000000 in
theorem gl_X9_ban : GoodIn lw_tbl (wsV RL 93 RX9 yX9_ban wsX9_ban) := goodIn_app (wl_good _ [504, 505, 506, 30] rfl (by decide +kernel)) gh_X9_ban
set_option maxRecDepth 20000 in
set_option maxHeartbeats 4000000 in
theorem gh_X10_ban : GoodIn lw_tbl wsX10_ban := wl_good _ [905, 694, 820, 821, 40, 822, 770, 771, 772, 785, 786, 787, 700, 702, 704, 706, 708, 710, 712, 714, 716, 718, 720, 722, 724, 726, 728, 730, 732, 734, 736, 738, 740, 742, 744, 746, 748, 750, 752, 754, 756, 758, 760, 762] rfl (by decide +kernel)
set_option maxRecDepth 20000 in
set_option maxHeartbeats 4000000 in
theorem gl_X10_ban : GoodIn lw_tbl (wsV RL 97 RX10 yX10_ban wsX10_ban) := goodIn_app (wl_good _ [902, 903, 904, 40] rfl (by decide +kernel)) gh_X10_ban
set_option maxRecDepth 20000 in
set_option maxHeartbeats 4000000 in
theorem gh_X9_breach : GoodIn lw_tbl wsX9_breach := wl_good _ [515, 243, 247, 516, 517, 518, 36, 519, 189, 255, 257, 259, 261, 263, 265, 267, 269, 271, 273, 275, 277, 279, 91, 93, 95, 97, 99, 191] rfl (by decide +kernel)
set_option maxRecDepth 20000 in
set_option maxHeartbeats 4000000 in
theorem gl_X9_breach : GoodIn lw_tbl (wsV RL 98 RX9 yX9_breach wsX9_breach) := goodIn_app (wl_good _ [512, 513, 514, 30] rfl (by decide +kernel)) gh_X9_breach
set_option maxRecDepth 20000 in
set_option maxHeartbeats 4000000 in
theorem gh_X10_breach : GoodIn lw_tbl wsX10_breach := wl_good _ [909, 670, 672, 910, 912, 27, 40, 913, 694, 785, 786, 787, 700, 702, 704, 706, 708, 710, 712, 714, 716, 718, 720, 722, 724, 726, 728, 730, 732, 734, 736, 738, 740, 742, 744, 746, 748, 750, 752, 754, 756, 758, 760, 762] rfl (by decide +kernel)
set_option maxRecDepth 20000 in
set_option maxHeartbeats 4000000 in
theorem gl_X10_breach : GoodIn lw_tbl (wsV RL 101 RX10 yX10_breach wsX10_breach) := goodIn_app (wl_good _ [906, 907, 908, 40] rfl (by decide +kernel)) gh_X10_breach
set_option maxRecDepth 20000 in
set_option maxHeartbeats 4000000 in
theorem gh_X9_least : GoodIn lw_tbl wsX9_least := wl_good _ [523, 243, 247, 300, 302, 0, 30, 303, 516, 517, 518, 36, 519, 189, 316, 318, 1, 319, 244, 242, 253, 320, 321, 322, 33, 323, 109, 111, 115, 113, 324, 325, 326, 31, 327, 58, 328, 329, 330, 331, 332, 333, 334, 335, 63, 60, 524, 525, 526, 499, 399, 41, 400, 401, 402, 403, 255, 257, 259, 261, 263, 265, 267, 269, 271, 273, 275, 277, 279, 91, 93, 95, 97, 99, 191, 117, 119, 121, 123, 67, 69, 71, 73] rfl (by decide +kernel)
set_option maxRecDepth 20000 in
set_option maxHeartbeats 4000000 in
theorem gl_X9_least : GoodIn lw_tbl (wsV RL 102 RX9 yX9_least wsX9_least) := goodIn_app (wl_good _ [520, 521, 522, 30] rfl (by decide +kernel)) gh_X9_least
set_option maxRecDepth 20000 in
set_option maxHeartbeats 4000000 in
theorem gh_X10_least : GoodIn lw_tbl wsX10_least := wl_good _ [917, 672, 777, 779, 15, 40, 780, 670, 770, 771, 772, 796, 798, 18, 799, 785, 786, 787, 800, 802, 19, 803, 679, 680, 681, 678, 682, 675, 676, 674, 910, 912, 27, 913, 694, 895, 896, 897, 700, 702, 704, 706, 708, 710, 712, 714, 716, 718, 720, 722, 724, 726, 728, 730, 732, 734, 736, 738, 740, 742, 744, 746, 748, 750, 752, 754, 756, 758, 760, 762] rfl (by decide +kernel)
set_option maxRecDepth 20000 in
set_option maxHeartbeats 4000000 in
theorem gl_X10_least : GoodIn lw_tbl (wsV RL 105 RX10 yX10_least wsX10_least) := goodIn_app (wl_good _ [914, 915, 916, 40] rfl (by decide +kernel)) gh_X10_least
set_option maxRecDepth 20000 in
set_option maxHeartbeats 4000000 in
theorem gh_X9_badRole : GoodIn lw_tbl wsX9_badRole := wl_good _ [530, 246, 247, 516, 517, 518, 36, 519, 189, 255, 257, 259, 261, 263, 265, 267, 269, 271, 273, 275, 277, 279, 164, 166, 168, 170, 172, 174, 176, 178, 180, 191] rfl (by decide +kernel)
set_option maxRecDepth 20000 in
set_option maxHeartbeats 4000000 in
theorem gl_X9_badRole : GoodIn lw_tbl (wsV RL 106 RX9 yX9_badRole wsX9_badRole) := goodIn_app (wl_good _ [527, 528, 529, 30] rfl (by decide +kernel)) gh_X9_badRole
set_option maxRecDepth 20000 in
set_option maxHeartbeats 4000000 in
theorem gh_X10_badRole : GoodIn lw_tbl wsX10_badRole := wl_good _ [921, 688, 689, 910, 912, 27, 40, 913, 694, 785, 786, 787, 700, 702, 704, 706, 708, 710, 712, 714, 716, 718, 720, 722, 724, 726, 728, 730, 732, 734, 736, 738, 740, 742, 744, 746, 748, 750, 752, 754, 756, 758, 760, 762] rfl (by decide +kernel)
set_option maxRecDepth 20000 in
set_option maxHeartbeats 4000000 in
theorem gl_X10_badRole : GoodIn lw_tbl (wsV RL 109 RX10 yX10_badRole wsX10_badRole) := goodIn_app (wl_good _ [918, 919, 920, 40] rfl (by decide +kernel)) gh_X10_badRole
set_option maxRecDepth 20000 in
set_option maxHeartbeats 4000000 in
theorem gh_X9_plan : GoodIn lw_tbl wsX9_plan := wl_good _ [534, 248, 251, 243, 425, 427, 3, 30, 428, 316, 318, 1, 319, 244, 242, 253, 320, 321, 322, 33, 323, 109, 111, 115, 113, 324, 325, 326, 31, 327, 58, 328, 329, 330, 331, 332, 333, 334, 335, 63, 60, 535, 536, 537, 37, 538, 200, 202, 204, 540, 541, 499, 399, 41, 400, 401, 402, 403, 255, 257, 259, 261, 263, 265, 267, 269, 271, 273, 275, 277, 279, 91, 93, 95, 97, 99, 117, 119, 121, 123, 67, 69, 71, 73, 206, 208, 210] rfl (by decide +kernel)
set_option maxRecDepth 20000 in
set_option maxHeartbeats 4000000 in
theorem gl_X9_plan : GoodIn lw_tbl (wsV RL 110 RX9 yX9_plan wsX9_plan) := goodIn_app (wl_good _ [531, 532, 533, 30] rfl (by decide +kernel)) gh_X9_plan
set_option maxRecDepth 20000 in
set_option maxHeartbeats 4000000 in
theorem gh_X10_plan : GoodIn lw_tbl wsX10_plan := wl_good _ [925, 670, 695, 696, 672, 796, 798, 18, 40, 799, 785, 786, 787, 800, 802, 19, 803, 679, 680, 681, 678, 682, 675, 676, 674, 895, 896, 897, 700, 702, 704, 706, 708, 710, 712, 714, 716, 718, 720, 722, 724, 726, 728, 730, 732, 734, 736, 738, 740, 742, 744, 746, 748, 750, 752, 754, 756, 758, 760, 762] rfl (by decide +kernel)
set_option maxRecDepth 20000 in
set_option maxHeartbeats 4000000 in
theorem gl_X10_plan : GoodIn lw_tbl (wsV RL 114 RX10 yX10_plan wsX10_plan) := goodIn_app (wl_good _ [922, 923, 924, 40] rfl (by decide +kernel)) gh_X10_plan
set_option maxRecDepth 20000 in
set_option maxHeartbeats 4000000 in
theorem gh_X9_takeOut : GoodIn lw_tbl wsX9_takeOut := wl_good _ [545, 248, 300, 302, 0, 30, 303, 243, 356, 357, 358, 546, 547, 548, 37, 549, 204, 255, 257, 259, 261, 263, 265, 267, 269, 271, 273, 275, 277, 279, 206, 208, 210, 91, 93, 95, 97, 99] rfl (by decide +kernel)
set_option maxRecDepth 20000 in
set_option maxHeartbeats 4000000 in
theorem gl_X9_takeOut : GoodIn lw_tbl (wsV RL 115 RX9 yX9_takeOut wsX9_takeOut) := goodIn_app (wl_good _ [542, 543, 544, 30] rfl (by decide +kernel)) gh_X9_takeOut
set_option maxRecDepth 20000 in
set_option maxHeartbeats 4000000 in
theorem gh_X10_takeOut : GoodIn lw_tbl wsX10_takeOut := wl_good _ [929, 695, 696, 777, 779, 15, 40, 780, 670, 770, 771, 772, 820, 821, 822, 785, 786, 787, 700, 702, 704, 706, 708, 710, 712, 714, 716, 718, 720, 722, 724, 726, 728, 730, 732, 734, 736, 738, 740, 742, 744, 746, 748, 750, 752, 754, 756, 758, 760, 762] rfl (by decide +kernel)
set_option maxRecDepth 20000 in
set_option maxHeartbeats 4000000 in
theorem gl_X10_takeOut : GoodIn lw_tbl (wsV RL 118 RX10 yX10_takeOut wsX10_takeOut) := goodIn_app (wl_good _ [926, 927, 928, 40] rfl (by decide +kernel)) gh_X10_takeOut
set_option maxRecDepth 20000 in
set_option maxHeartbeats 4000000 in
theorem gh_X9_stopped : GoodIn lw_tbl wsX9_stopped := wl_good _ [553, 248, 244, 554, 555, 30, 556, 557, 559, 12, 560, 242, 561, 325, 326, 31, 327, 58, 562, 563, 564, 37, 565, 202, 204, 255, 257, 259, 261, 263, 265, 267, 269, 271, 273, 275, 277, 279, 206, 208, 210, 117, 119, 121, 123, 67, 69, 71, 73] rfl (by decide +kernel)
set_option maxRecDepth 20000 in
set_option maxHeartbeats 4000000 in
theorem gl_X9_stopped : GoodIn lw_tbl (wsV RL 119 RX9 yX9_stopped wsX9_stopped) := goodIn_app (wl_good _ [550, 551, 552, 30] rfl (by decide +kernel)) gh_X9_stopped
set_option maxRecDepth 20000 in
set_option maxHeartbeats 4000000 in
theorem gh_X10_stopped : GoodIn lw_tbl wsX10_stopped := wl_good _ [933, 695, 679, 770, 771, 40, 772, 934, 936, 28, 937, 680, 678, 682, 696, 681, 785, 786, 787, 700, 702, 704, 706, 708, 710, 712, 714, 716, 718, 720, 722, 724, 726, 728, 730, 732, 734, 736, 738, 740, 742, 744, 746, 748, 750, 752, 754, 756, 758, 760, 762] rfl (by decide +kernel)
set_option maxRecDepth 20000 in
set_option maxHeartbeats 4000000 in
theorem gl_X10_stopped : GoodIn lw_tbl (wsV RL 122 RX10 yX10_stopped wsX10_stopped) := goodIn_app (wl_good _ [930, 931, 932, 40] rfl (by decide +kernel)) gh_X10_stopped
set_option maxRecDepth 20000 in
set_option maxHeartbeats 4000000 in
theorem gh_X9_stop : GoodIn lw_tbl wsX9_stop := wl_good _ [569, 248, 244, 554, 555, 30, 556, 557, 559, 12, 560, 242, 561, 325, 326, 31, 327, 58, 562, 563, 564, 37, 565, 202, 204, 255, 257, 259, 261, 263, 265, 267, 269, 271, 273, 275, 277, 279, 206, 208, 210, 117, 119, 121, 123, 67, 69, 71, 73] rfl (by decide +kernel)
set_option maxRecDepth 20000 in
set_option maxHeartbeats 4000000 in
theorem gl_X9_stop : GoodIn lw_tbl (wsV RL 123 RX9 yX9_stop wsX9_stop) := goodIn_app (wl_good _ [566, 567, 568, 30] rfl (by decide +kernel)) gh_X9_stop
set_option maxRecDepth 20000 in
set_option maxHeartbeats 4000000 in
theorem gh_X10_stop : GoodIn lw_tbl wsX10_stop := wl_good _ [941, 695, 679, 770, 771, 40, 772, 934, 936, 28, 937, 680, 678, 682, 696, 681, 785, 786, 787, 700, 702, 704, 706, 708, 710, 712, 714, 716, 718, 720, 722, 724, 726, 728, 730, 732, 734, 736, 738, 740, 742, 744, 746, 748, 750, 752, 754, 756, 758, 760, 762] rfl (by decide +kernel)
set_option maxRecDepth 20000 in
set_option maxHeartbeats 4000000 in
theorem gl_X10_stop : GoodIn lw_tbl (wsV RL 126 RX10 yX10_stop wsX10_stop) := goodIn_app (wl_good _ [938, 939, 940, 40] rfl (by decide +kernel)) gh_X10_stop
set_option maxRecDepth 20000 in
set_option maxHeartbeats 4000000 in
theorem gh_X9_used : GoodIn lw_tbl wsX9_used := wl_good _ [573, 244, 255, 257, 259, 261, 263, 265, 267, 269, 271, 273, 275, 277, 279, 117, 119, 121, 123] rfl (by decide +kernel)
set_option maxRecDepth 20000 in
set_option maxHeartbeats 4000000 in
theorem gl_X9_used : GoodIn lw_tbl (wsV RL 127 RX9 yX9_used wsX9_used) := goodIn_app (wl_good _ [570, 571, 572, 30] rfl (by decide +kernel)) gh_X9_used
set_option maxRecDepth 20000 in
set_option maxHeartbeats 4000000 in
theorem gh_X10_used : GoodIn lw_tbl wsX10_used := wl_good _ [945, 679, 680, 681, 682, 770, 771, 40, 772, 700, 702, 704, 706, 708, 710, 712, 714, 716, 718, 720, 722, 724, 726, 728, 730, 732, 734, 736, 738, 740, 742, 744, 746, 748, 750, 752, 754, 756, 758, 760, 762] rfl (by decide +kernel)
set_option maxRecDepth 20000 in
set_option maxHeartbeats 4000000 in
theorem gl_X10_used : GoodIn lw_tbl (wsV RL 130 RX10 yX10_used wsX10_used) := goodIn_app (wl_good _ [942, 943, 944, 40] rfl (by decide +kernel)) gh_X10_used
set_option maxRecDepth 20000 in
set_option maxHeartbeats 4000000 in
theorem gh_X9_apply : GoodIn lw_tbl wsX9_apply := wl_good _ [577, 248, 243, 242, 394, 395, 396, 32, 397, 86, 88, 90, 398, 399, 41, 400, 401, 402, 403, 308, 309, 310, 311, 255, 257, 259, 261, 263, 265, 267, 269, 271, 273, 275, 277, 279, 206, 208, 210, 91, 93, 95, 97, 99, 67, 69, 71, 73] rfl (by decide +kernel)
set_option maxRecDepth 20000 in
set_option maxHeartbeats 4000000 in
theorem gl_X9_apply : GoodIn lw_tbl (wsV RL 131 RX9 yX9_apply wsX9_apply) := goodIn_app (wl_good _ [574, 575, 576, 30] rfl (by decide +kernel)) gh_X9_apply
set_option maxRecDepth 20000 in
set_option maxHeartbeats 4000000 in
theorem gh_X10_apply : GoodIn lw_tbl wsX10_apply := wl_good _ [949, 695, 670, 696, 839, 841, 21, 40, 842, 672, 673, 678, 785, 786, 787, 781, 783, 16, 784, 700, 702, 704, 706, 708, 710, 712, 714, 716, 718, 720, 722, 724, 726, 728, 730, 732, 734, 736, 738, 740, 742, 744, 746, 748, 750, 752, 754, 756, 758, 760, 762] rfl (by decide +kernel)
set_option maxRecDepth 20000 in
set_option maxHeartbeats 4000000 in
theorem gl_X10_apply : GoodIn lw_tbl (wsV RL 134 RX10 yX10_apply wsX10_apply) := goodIn_app (wl_good _ [946, 947, 948, 40] rfl (by decide +kernel)) gh_X10_apply
set_option maxRecDepth 20000 in
set_option maxHeartbeats 4000000 in
theorem gh_X9_sheet : GoodIn lw_tbl wsX9_sheet := wl_good _ [581, 250, 249, 582, 583, 30, 584, 382, 383, 384, 39, 385, 233, 235, 585, 586, 587, 38, 588, 219, 221, 255, 257, 259, 261, 263, 265, 267, 269, 271, 273, 275, 277, 279, 237, 239, 222, 224] rfl (by decide +kernel)
set_option maxRecDepth 20000 in
set_option maxHeartbeats 4000000 in
theorem gl_X9_sheet : GoodIn lw_tbl (wsV RL 135 RX9 yX9_sheet wsX9_sheet) := goodIn_app (wl_good _ [578, 579, 580, 30] rfl (by decide +kernel)) gh_X9_sheet
set_option maxRecDepth 20000 in
set_option maxHeartbeats 4000000 in
theorem gh_X10_sheet : GoodIn lw_tbl wsX10_sheet := wl_good _ [953, 697, 698, 954, 955, 40, 956, 770, 771, 772, 831, 833, 20, 834, 668, 669, 700, 702, 704, 706, 708, 710, 712, 714, 716, 718, 720, 722, 724, 726, 728, 730, 732, 734, 736, 738, 740, 742, 744, 746, 748, 750, 752, 754, 756, 758, 760, 762] rfl (by decide +kernel)
set_option maxRecDepth 20000 in
set_option maxHeartbeats 4000000 in
theorem gl_X10_sheet : GoodIn lw_tbl (wsV RL 138 RX10 yX10_sheet wsX10_sheet) := goodIn_app (wl_good _ [950, 951, 952, 40] rfl (by decide +kernel)) gh_X10_sheet
set_option maxRecDepth 20000 in
set_option maxHeartbeats 4000000 in
theorem gh_X9_save : GoodIn lw_tbl wsX9_save := wl_good _ [592, 249, 250, 243, 582, 583, 30, 584, 593, 594, 595, 38, 596, 219, 382, 383, 384, 39, 385, 233, 235, 597, 598, 599, 600, 601, 602, 42, 603, 221, 255, 257, 259, 261, 263, 265, 267, 269, 271, 273, 275, 277, 279, 91, 93, 95, 97, 99, 222, 224, 237, 239] rfl (by decide +kernel)
set_option maxRecDepth 20000 in
set_option maxHeartbeats 4000000 in
theorem gl_X9_save : GoodIn lw_tbl (wsV RL 139 RX9 yX9_save wsX9_save) := goodIn_app (wl_good _ [589, 590, 591, 30] rfl (by decide +kernel)) gh_X9_save
set_option maxRecDepth 20000 in
set_option maxHeartbeats 4000000 in
theorem gh_X10_save : GoodIn lw_tbl wsX10_save := wl_good _ [960, 697, 670, 698, 672, 954, 955, 40, 956, 770, 771, 772, 831, 833, 20, 834, 668, 669, 700, 702, 704, 706, 708, 710, 712, 714, 716, 718, 720, 722, 724, 726, 728, 730, 732, 734, 736, 738, 740, 742, 744, 746, 748, 750, 752, 754, 756, 758, 760, 762] rfl (by decide +kernel)
set_option maxRecDepth 20000 in
set_option maxHeartbeats 4000000 in
theorem gl_X10_save : GoodIn lw_tbl (wsV RL 142 RX10 yX10_save wsX10_save) := goodIn_app (wl_good _ [957, 958, 959, 40] rfl (by decide +kernel)) gh_X10_save
set_option maxRecDepth 20000 in
set_option maxHeartbeats 4000000 in
theorem gh_X9_load : GoodIn lw_tbl wsX9_load := wl_good _ [607, 249, 250, 243, 582, 583, 30, 584, 300, 302, 0, 303, 593, 594, 595, 38, 596, 219, 382, 383, 384, 39, 385, 233, 235, 608, 609, 610, 611, 221, 308, 309, 310, 32, 311, 86, 88, 255, 257, 259, 261, 263, 265, 267, 269, 271, 273, 275, 277, 279, 222, 224, 91, 93, 95, 97, 99, 237, 239] rfl (by decide +kernel)
set_option maxRecDepth 20000 in
set_option maxHeartbeats 4000000 in
theorem gl_X9_load : GoodIn lw_tbl (wsV RL 143 RX9 yX9_load wsX9_load) := goodIn_app (wl_good _ [604, 605, 606, 30] rfl (by decide +kernel)) gh_X9_load
set_option maxRecDepth 20000 in
set_option maxHeartbeats 4000000 in
theorem gh_X10_load : GoodIn lw_tbl wsX10_load := wl_good _ [964, 697, 698, 954, 955, 40, 956, 770, 771, 772, 777, 779, 15, 780, 670, 831, 833, 20, 834, 668, 669, 781, 783, 16, 784, 672, 673, 785, 786, 787, 700, 702, 704, 706, 708, 710, 712, 714, 716, 718, 720, 722, 724, 726, 728, 730, 732, 734, 736, 738, 740, 742, 744, 746, 748, 750, 752, 754, 756, 758, 760, 762] rfl (by decide +kernel)
set_option maxRecDepth 20000 in
set_option maxHeartbeats 4000000 in
theorem gl_X10_load : GoodIn lw_tbl (wsV RL 146 RX10 yX10_load wsX10_load) := goodIn_app (wl_good _ [961, 962, 963, 40] rfl (by decide +kernel)) gh_X10_load
set_option maxRecDepth 20000 in
set_option maxHeartbeats 4000000 in
theorem gh_X9_tear : GoodIn lw_tbl wsX9_tear := wl_good _ [615, 249, 250, 582, 583, 30, 584, 593, 594, 595, 38, 596, 219, 382, 383, 384, 39, 385, 233, 235, 255, 257, 259, 261, 263, 265, 267, 269, 271, 273, 275, 277, 279, 222, 224, 237, 239] rfl (by decide +kernel)
set_option maxRecDepth 20000 in
set_option maxHeartbeats 4000000 in
theorem gl_X9_tear : GoodIn lw_tbl (wsV RL 147 RX9 yX9_tear wsX9_tear) := goodIn_app (wl_good _ [612, 613, 614, 30] rfl (by decide +kernel)) gh_X9_tear
set_option maxRecDepth 20000 in
set_option maxHeartbeats 4000000 in
theorem gh_X10_tear : GoodIn lw_tbl wsX10_tear := wl_good _ [968, 697, 954, 955, 40, 956, 770, 771, 772, 831, 833, 20, 834, 668, 669, 700, 702, 704, 706, 708, 710, 712, 714, 716, 718, 720, 722, 724, 726, 728, 730, 732, 734, 736, 738, 740, 742, 744, 746, 748, 750, 752, 754, 756, 758, 760, 762] rfl (by decide +kernel)
set_option maxRecDepth 20000 in
set_option maxHeartbeats 4000000 in
theorem gl_X10_tear : GoodIn lw_tbl (wsV RL 150 RX10 yX10_tear wsX10_tear) := goodIn_app (wl_good _ [965, 966, 967, 40] rfl (by decide +kernel)) gh_X10_tear
set_option maxRecDepth 20000 in
set_option maxHeartbeats 4000000 in
theorem gh_X9_copy : GoodIn lw_tbl wsX9_copy := wl_good _ [619, 250, 249, 582, 583, 30, 584, 382, 383, 384, 39, 385, 233, 235, 593, 594, 595, 38, 596, 219, 620, 621, 622, 623, 624, 625, 626, 627, 221, 628, 630, 629, 43, 255, 257, 259, 261, 263, 265, 267, 269, 271, 273, 275, 277, 279, 237, 239, 222, 224] rfl (by decide +kernel)
set_option maxRecDepth 20000 in
set_option maxHeartbeats 4000000 in
theorem gl_X9_copy : GoodIn lw_tbl (wsV RL 151 RX9 yX9_copy wsX9_copy) := goodIn_app (wl_good _ [616, 617, 618, 30] rfl (by decide +kernel)) gh_X9_copy
set_option maxRecDepth 20000 in
set_option maxHeartbeats 4000000 in
theorem gh_X10_copy : GoodIn lw_tbl wsX10_copy := wl_good _ [972, 697, 699, 698, 954, 955, 40, 956, 770, 771, 772, 831, 833, 20, 834, 668, 669, 700, 702, 704, 706, 708, 710, 712, 714, 716, 718, 720, 722, 724, 726, 728, 730, 732, 734, 736, 738, 740, 742, 744, 746, 748, 750, 752, 754, 756, 758, 760, 762] rfl (by decide +kernel)
set_option maxRecDepth 20000 in
set_option maxHeartbeats 4000000 in
theorem gl_X10_copy : GoodIn lw_tbl (wsV RL 155 RX10 yX10_copy wsX10_copy) := goodIn_app (wl_good _ [969, 970, 971, 40] rfl (by decide +kernel)) gh_X10_copy
set_option maxRecDepth 20000 in
set_option maxHeartbeats 4000000 in
theorem gh_X9_asked : GoodIn lw_tbl wsX9_asked := wl_good _ [634, 254, 255, 257, 259, 261, 263, 265, 267, 269, 271, 273, 275, 277, 279] rfl (by decide +kernel)
set_option maxRecDepth 20000 in
set_option maxHeartbeats 4000000 in
theorem gl_X9_asked : GoodIn lw_tbl (wsV RL 156 RX9 yX9_asked wsX9_asked) := goodIn_app (wl_good _ [631, 632, 633, 30] rfl (by decide +kernel)) gh_X9_asked
set_option maxRecDepth 20000 in
set_option maxHeartbeats 4000000 in
theorem gh_X10_asked : GoodIn lw_tbl wsX10_asked := wl_good _ [976, 684, 700, 702, 704, 706, 708, 710, 712, 714, 716, 718, 720, 722, 724, 726, 728, 730, 732, 734, 736, 738, 740, 742, 744, 746, 748, 750, 752, 754, 756, 758, 760, 762] rfl (by decide +kernel)
set_option maxRecDepth 20000 in
set_option maxHeartbeats 4000000 in
theorem gl_X10_asked : GoodIn lw_tbl (wsV RL 159 RX10 yX10_asked wsX10_asked) := goodIn_app (wl_good _ [973, 974, 975, 40] rfl (by decide +kernel)) gh_X10_asked
set_option maxRecDepth 20000 in
set_option maxHeartbeats 4000000 in
theorem gh_X9_count : GoodIn lw_tbl wsX9_count := wl_good _ [638, 243, 242, 244, 251, 247, 639, 540, 30, 541, 499, 399, 41, 400, 401, 402, 403, 425, 427, 3, 428, 316, 318, 1, 319, 253, 320, 321, 322, 33, 323, 109, 111, 115, 113, 324, 325, 326, 31, 327, 58, 328, 329, 330, 331, 332, 333, 334, 335, 63, 60, 255, 257, 259, 261, 263, 265, 267, 269, 271, 273, 275, 277, 279, 91, 93, 95, 97, 99, 67, 69, 71, 73, 117, 119, 121, 123, 191] rfl (by decide +kernel)
set_option maxRecDepth 20000 in
set_option maxHeartbeats 4000000 in
theorem gl_X9_count : GoodIn lw_tbl (wsV RL 160 RX9 yX9_count wsX9_count) := goodIn_app (wl_good _ [635, 636, 637, 30] rfl (by decide +kernel)) gh_X9_count
set_option maxRecDepth 20000 in
set_option maxHeartbeats 4000000 in
theorem gh_X10_count : GoodIn lw_tbl wsX10_count := wl_good _ [980, 670, 678, 679, 672, 694, 895, 896, 40, 897, 796, 798, 18, 799, 785, 786, 787, 800, 802, 19, 803, 680, 681, 682, 675, 676, 674, 700, 702, 704, 706, 708, 710, 712, 714, 716, 718, 720, 722, 724, 726, 728, 730, 732, 734, 736, 738, 740, 742, 744, 746, 748, 750, 752, 754, 756, 758, 760, 762] rfl (by decide +kernel)
set_option maxRecDepth 20000 in
set_option maxHeartbeats 4000000 in
theorem gl_X10_count : GoodIn lw_tbl (wsV RL 163 RX10 yX10_count wsX10_count) := goodIn_app (wl_good _ [977, 978, 979, 40] rfl (by decide +kernel)) gh_X10_count
set_option maxRecDepth 20000 in
set_option maxHeartbeats 4000000 in
theorem gh_X9_finding : GoodIn lw_tbl wsX9_finding := wl_good _ [643, 250, 255, 257, 259, 261, 263, 265, 267, 269, 271, 273, 275, 277, 279, 237, 239] rfl (by decide +kernel)
set_option maxRecDepth 20000 in
set_option maxHeartbeats 4000000 in
theorem gl_X9_finding : GoodIn lw_tbl (wsV RL 164 RX9 yX9_finding wsX9_finding) := goodIn_app (wl_good _ [640, 641, 642, 30] rfl (by decide +kernel)) gh_X9_finding
set_option maxRecDepth 20000 in
set_option maxHeartbeats 4000000 in
theorem gh_X10_finding : GoodIn lw_tbl wsX10_finding := wl_good _ [984, 668, 700, 702, 704, 706, 708, 710, 712, 714, 716, 718, 720, 722, 724, 726, 728, 730, 732, 734, 736, 738, 740, 742, 744, 746, 748, 750, 752, 754, 756, 758, 760, 762] rfl (by decide +kernel)
set_option maxRecDepth 20000 in
set_option maxHeartbeats 4000000 in
theorem gl_X10_finding : GoodIn lw_tbl (wsV RL 167 RX10 yX10_finding wsX10_finding) := goodIn_app (wl_good _ [981, 982, 983, 40] rfl (by decide +kernel)) gh_X10_finding
set_option maxRecDepth 20000 in
set_option maxHeartbeats 4000000 in
theorem gh_X9_findings : GoodIn lw_tbl wsX9_findings := wl_good _ [647, 250, 255, 257, 259, 261, 263, 265, 267, 269, 271, 273, 275, 277, 279, 237, 239] rfl (by decide +kernel)
set_option maxRecDepth 20000 in
set_option maxHeartbeats 4000000 in
theorem gl_X9_findings : GoodIn lw_tbl (wsV RL 168 RX9 yX9_findings wsX9_findings) := goodIn_app (wl_good _ [644, 645, 646, 30] rfl (by decide +kernel)) gh_X9_findings
set_option maxRecDepth 20000 in
set_option maxHeartbeats 4000000 in
theorem gh_X10_findings : GoodIn lw_tbl wsX10_findings := wl_good _ [988, 669, 770, 771, 40, 772, 700, 702, 704, 706, 708, 710, 712, 714, 716, 718, 720, 722, 724, 726, 728, 730, 732, 734, 736, 738, 740, 742, 744, 746, 748, 750, 752, 754, 756, 758, 760, 762] rfl (by decide +kernel)
set_option maxRecDepth 20000 in
set_option maxHeartbeats 4000000 in
theorem gl_X10_findings : GoodIn lw_tbl (wsV RL 171 RX10 yX10_findings wsX10_findings) := goodIn_app (wl_good _ [985, 986, 987, 40] rfl (by decide +kernel)) gh_X10_findings
set_option maxRecDepth 20000 in
set_option maxHeartbeats 4000000 in
theorem gh_X9_digest : GoodIn lw_tbl wsX9_digest := wl_good _ [651, 652, 657, 253, 242, 244, 247, 653, 655, 13, 30, 656, 243, 251, 425, 427, 3, 428, 316, 318, 1, 319, 320, 321, 322, 33, 323, 109, 111, 115, 113, 324, 325, 326, 31, 327, 58, 328, 329, 330, 331, 332, 333, 334, 335, 63, 60, 336, 337, 338, 339, 658, 660, 14, 661, 249, 608, 609, 610, 38, 611, 221, 255, 257, 259, 261, 263, 265, 267, 269, 271, 273, 275, 277, 279, 67, 69, 71, 73, 117, 119, 121, 123, 191, 91, 93, 95, 97, 99, 222, 224] rfl (by decide +kernel)
set_option maxRecDepth 20000 in
set_option maxHeartbeats 4000000 in
theorem gl_X9_digest : GoodIn lw_tbl (wsV RL 172 RX9 yX9_digest wsX9_digest) := goodIn_app (wl_good _ [648, 649, 650, 30] rfl (by decide +kernel)) gh_X9_digest
set_option maxRecDepth 20000 in
set_option maxHeartbeats 4000000 in
theorem gh_X10_digest : GoodIn lw_tbl wsX10_digest := wl_good _ [992, 993, 670, 994, 674, 678, 679, 680, 681, 682, 694, 697, 698, 792, 794, 17, 40, 795, 671, 672, 673, 796, 798, 18, 799, 785, 786, 787, 800, 802, 19, 803, 675, 676, 700, 702, 704, 706, 708, 710, 712, 714, 716, 718, 720, 722, 724, 726, 728, 730, 732, 734, 736, 738, 740, 742, 744, 746, 748, 750, 752, 754, 756, 758, 760, 762] rfl (by decide +kernel)
set_option maxRecDepth 20000 in
set_option maxHeartbeats 4000000 in
theorem gl_X10_digest : GoodIn lw_tbl (wsV RL 176 RX10 yX10_digest wsX10_digest) := goodIn_app (wl_good _ [989, 990, 991, 40] rfl (by decide +kernel)) gh_X10_digest
