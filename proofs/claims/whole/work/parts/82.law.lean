set_option maxRecDepth 20000 in
theorem ggL_law_X6_init : GoodIn wsL_law wsX6_init := goodIn_r _ [9, 10, 11, 12, 13, 14, 15, 16, 17, 18, 19, 20, 21, 22, 23, 24, 25, 26, 27, 28, 29, 30, 31, 32, 33, 34, 35, 36, 37, 38, 39, 40, 41, 42, 43, 44, 45, 46, 47, 48, 49, 50, 51, 52, 53, 54, 55, 56, 57, 58, 59, 60, 61, 62, 63, 64, 823, 824, 825, 795, 796, 797, 798, 799, 800, 801, 802, 803, 804, 826, 827, 828, 829, 830, 831, 832, 833, 834, 835, 836, 837, 838, 839, 840] (by decide +kernel) (by decide +kernel)
set_option maxRecDepth 20000 in
theorem gL_law_X6_init : GoodIn wsL_law (wsX6_init) := ggL_law_X6_init
set_option maxRecDepth 20000 in
theorem ggL_law_X7_init : GoodIn wsL_law wsX7_init := goodIn_r _ [67, 68, 11, 12, 69, 70, 71, 34, 72, 73, 74, 75, 76, 77, 78, 79, 80, 81, 61, 82, 83, 84, 805, 806, 807, 808, 809, 810, 811, 812, 813, 814, 815, 816, 817, 818, 819, 820, 821, 822] (by decide +kernel) (by decide +kernel)
set_option maxRecDepth 20000 in
theorem gL_law_X7_init : GoodIn wsL_law (wsX7_init) := ggL_law_X7_init
set_option maxRecDepth 20000 in
theorem ggL_law_X7_units : GoodIn wsL_law wsX7_units := goodIn_r _ [121, 122, 123, 5, 124, 125, 126, 127, 128, 129, 130, 131, 132, 133, 134, 135] (by decide +kernel) (by decide +kernel)
set_option maxRecDepth 20000 in
theorem gL_law_X7_units : GoodIn wsL_law (wsV RL 17 RX7 yX7_units wsX7_units) := goodIn_app (goodIn_of _ (by decide +kernel)) ggL_law_X7_units
set_option maxRecDepth 20000 in
theorem ggL_law_X6_order : GoodIn wsL_law wsX6_order := goodIn_r _ [139, 16, 89, 90, 2, 91, 92, 140, 141, 142, 93, 94, 95, 15, 96, 97, 98, 99, 100, 101, 40, 41, 114, 115, 116, 117, 143, 144, 145, 146, 17, 147, 148, 149, 150, 151, 152, 153, 154, 106, 107, 108, 109, 110, 111, 112, 113, 155, 156, 157, 158, 159, 160, 161, 162, 163, 164, 795, 796, 797, 798, 799, 800, 801, 802, 803, 804, 823, 824, 825] (by decide +kernel) (by decide +kernel)
set_option maxRecDepth 20000 in
theorem gL_law_X6_order : GoodIn wsL_law (wsV RL 18 RX6 yX6_order wsX6_order) := goodIn_app (goodIn_of _ (by decide +kernel)) ggL_law_X6_order
set_option maxRecDepth 20000 in
theorem ggL_law_X7_order : GoodIn wsL_law wsX7_order := goodIn_r _ [168, 122, 123, 5, 124, 125, 126, 127, 128, 129, 169, 170, 171, 130, 131, 132, 133, 134, 135, 172, 173, 174] (by decide +kernel) (by decide +kernel)
set_option maxRecDepth 20000 in
theorem gL_law_X7_order : GoodIn wsL_law (wsV RL 21 RX7 yX7_order wsX7_order) := goodIn_app (goodIn_of _ (by decide +kernel)) ggL_law_X7_order
set_option maxRecDepth 20000 in
theorem ggL_law_X6_orders : GoodIn wsL_law wsX6_orders := goodIn_r _ [178, 92, 16, 89, 90, 2, 91, 93, 94, 95, 15, 96, 97, 98, 99, 100, 101, 40, 41, 147, 148, 149, 150, 151, 152, 153, 154, 106, 107, 108, 109, 110, 111, 112, 113, 155, 156, 157, 158, 159, 160, 161, 179, 180, 181, 182, 17, 183, 184, 185, 186, 187, 795, 796, 797, 798, 799, 800, 801, 802, 803, 804, 823, 824, 825] (by decide +kernel) (by decide +kernel)
set_option maxRecDepth 20000 in
theorem gL_law_X6_orders : GoodIn wsL_law (wsV RL 22 RX6 yX6_orders wsX6_orders) := goodIn_app (goodIn_of _ (by decide +kernel)) ggL_law_X6_orders
set_option maxRecDepth 20000 in
theorem ggL_law_X7_orders : GoodIn wsL_law wsX7_orders := goodIn_r _ [191, 126, 81, 122, 123, 5, 124, 125, 127, 128, 129, 192, 193, 194, 195, 130, 131, 132, 133, 134, 135, 172, 173, 174, 805, 806, 807, 808, 809, 810, 811, 812, 813, 814, 815, 816, 817, 818, 819, 820, 821, 822] (by decide +kernel) (by decide +kernel)
set_option maxRecDepth 20000 in
theorem gL_law_X7_orders : GoodIn wsL_law (wsV RL 26 RX7 yX7_orders wsX7_orders) := goodIn_app (goodIn_of _ (by decide +kernel)) ggL_law_X7_orders
set_option maxRecDepth 20000 in
theorem ggL_law_X6_makers : GoodIn wsL_law wsX6_makers := goodIn_r _ [199, 16, 17, 21, 89, 90, 2, 91, 92, 93, 94, 95, 15, 96, 97, 98, 99, 100, 101, 40, 41, 102, 103, 104, 105, 106, 107, 108, 109, 110, 111, 112, 113, 147, 148, 149, 150, 151, 152, 153, 154, 155, 156, 157, 158, 159, 160, 161, 200, 201, 202, 203, 204, 205, 206, 207, 208, 209, 210, 211, 162, 163, 164, 212, 213, 214, 20, 215, 216, 114, 115, 116, 117, 217, 218, 219, 220, 46, 221, 222, 223, 224, 225, 226, 227, 228, 795, 796, 797, 798, 799, 800, 801, 802, 803, 804, 823, 824, 825, 826, 827] (by decide +kernel) (by decide +kernel)
set_option maxRecDepth 20000 in
theorem gL_law_X6_makers : GoodIn wsL_law (wsV RL 27 RX6 yX6_makers wsX6_makers) := goodIn_app (goodIn_of _ (by decide +kernel)) ggL_law_X6_makers
set_option maxRecDepth 20000 in
theorem ggL_law_X7_makers : GoodIn wsL_law wsX7_makers := goodIn_r _ [232, 81, 122, 123, 5, 124, 125, 126, 127, 128, 129, 192, 193, 194, 195, 130, 131, 132, 133, 134, 135, 172, 173, 174, 805, 806, 807, 808, 809, 810, 811, 812, 813, 814, 815, 816, 817, 818, 819, 820, 821, 822] (by decide +kernel) (by decide +kernel)
set_option maxRecDepth 20000 in
theorem gL_law_X7_makers : GoodIn wsL_law (wsV RL 30 RX7 yX7_makers wsX7_makers) := goodIn_app (goodIn_of _ (by decide +kernel)) ggL_law_X7_makers
set_option maxRecDepth 20000 in
theorem ggL_law_X6_power : GoodIn wsL_law wsX6_power := goodIn_r _ [236, 237, 89, 90, 2, 91, 92, 140, 141, 142, 162, 163, 157, 164] (by decide +kernel) (by decide +kernel)
set_option maxRecDepth 20000 in
theorem gL_law_X6_power : GoodIn wsL_law (wsV RL 33 RX6 yX6_power wsX6_power) := goodIn_app (goodIn_of _ (by decide +kernel)) ggL_law_X6_power
set_option maxRecDepth 20000 in
theorem ggL_law_X7_power : GoodIn wsL_law wsX7_power := goodIn_r _ [241, 242, 122, 123, 5, 124, 125, 126, 127, 128, 129, 169, 170, 171, 243, 244, 245] (by decide +kernel) (by decide +kernel)
set_option maxRecDepth 20000 in
theorem gL_law_X7_power : GoodIn wsL_law (wsV RL 37 RX7 yX7_power wsX7_power) := goodIn_app (goodIn_of _ (by decide +kernel)) ggL_law_X7_power
set_option maxRecDepth 20000 in
theorem ggL_law_X6_log : GoodIn wsL_law wsX6_log := goodIn_r _ [249, 89, 90, 2, 91, 92, 140, 141, 142, 250, 251, 252] (by decide +kernel) (by decide +kernel)
set_option maxRecDepth 20000 in
theorem gL_law_X6_log : GoodIn wsL_law (wsV RL 38 RX6 yX6_log wsX6_log) := goodIn_app (goodIn_of _ (by decide +kernel)) ggL_law_X6_log
set_option maxRecDepth 20000 in
theorem ggL_law_X7_log : GoodIn wsL_law wsX7_log := goodIn_r _ [256, 122, 123, 5, 124, 125, 126, 127, 128, 129, 169, 170, 171] (by decide +kernel) (by decide +kernel)
set_option maxRecDepth 20000 in
theorem gL_law_X7_log : GoodIn wsL_law (wsV RL 41 RX7 yX7_log wsX7_log) := goodIn_app (goodIn_of _ (by decide +kernel)) ggL_law_X7_log
set_option maxRecDepth 20000 in
theorem ggL_law_X6_roots : GoodIn wsL_law wsX6_roots := goodIn_r _ [260, 89, 90, 2, 91, 92, 140, 141, 142, 162, 163, 157, 164] (by decide +kernel) (by decide +kernel)
set_option maxRecDepth 20000 in
theorem gL_law_X6_roots : GoodIn wsL_law (wsV RL 42 RX6 yX6_roots wsX6_roots) := goodIn_app (goodIn_of _ (by decide +kernel)) ggL_law_X6_roots
set_option maxRecDepth 20000 in
theorem ggL_law_X7_roots : GoodIn wsL_law wsX7_roots := goodIn_r _ [264, 265, 122, 123, 5, 124, 125, 126, 127, 128, 129, 169, 170, 171, 243, 244, 245] (by decide +kernel) (by decide +kernel)
set_option maxRecDepth 20000 in
theorem gL_law_X7_roots : GoodIn wsL_law (wsV RL 46 RX7 yX7_roots wsX7_roots) := goodIn_app (goodIn_of _ (by decide +kernel)) ggL_law_X7_roots
set_option maxRecDepth 20000 in
theorem ggL_law_X6_squares : GoodIn wsL_law wsX6_squares := goodIn_r _ [269, 16, 89, 90, 2, 91, 92, 93, 94, 95, 15, 96, 97, 98, 99, 100, 101, 40, 41, 270, 271, 272, 273, 21, 274, 212, 213, 214, 20, 215, 216, 217, 218, 219, 220, 46, 275, 276, 277, 278, 279, 226, 227, 228, 114, 115, 116, 117, 280, 281, 282, 283, 795, 796, 797, 798, 799, 800, 801, 802, 803, 804, 823, 824, 825, 826, 827] (by decide +kernel) (by decide +kernel)
set_option maxRecDepth 20000 in
theorem gL_law_X6_squares : GoodIn wsL_law (wsV RL 47 RX6 yX6_squares wsX6_squares) := goodIn_app (goodIn_of _ (by decide +kernel)) ggL_law_X6_squares
set_option maxRecDepth 20000 in
theorem ggL_law_X7_squares : GoodIn wsL_law wsX7_squares := goodIn_r _ [287, 288, 82, 122, 123, 5, 124, 125, 126, 127, 128, 129, 130, 131, 132, 133, 134, 135, 805, 806, 807, 808, 809, 810, 811, 812, 813, 814, 815, 816, 817, 818, 819, 820, 821, 822] (by decide +kernel) (by decide +kernel)
set_option maxRecDepth 20000 in
theorem gL_law_X7_squares : GoodIn wsL_law (wsV RL 50 RX7 yX7_squares wsX7_squares) := goodIn_app (goodIn_of _ (by decide +kernel)) ggL_law_X7_squares
set_option maxRecDepth 20000 in
theorem ggL_law_X6_sign : GoodIn wsL_law wsX6_sign := goodIn_r _ [292, 293, 294, 16, 93, 94, 95, 15, 96, 97, 98, 99, 100, 101, 40, 41, 295, 296, 2, 297, 162, 163, 157, 164, 795, 796, 797, 798, 799, 800, 801, 802, 803, 804, 823, 824, 825] (by decide +kernel) (by decide +kernel)
set_option maxRecDepth 20000 in
theorem gL_law_X6_sign : GoodIn wsL_law (wsV RL 51 RX6 yX6_sign wsX6_sign) := goodIn_app (goodIn_of _ (by decide +kernel)) ggL_law_X6_sign
set_option maxRecDepth 20000 in
theorem ggL_law_X7_sign : GoodIn wsL_law wsX7_sign := goodIn_r _ [301, 302, 303, 127, 128, 5, 129, 243, 244, 245, 125] (by decide +kernel) (by decide +kernel)
set_option maxRecDepth 20000 in
theorem gL_law_X7_sign : GoodIn wsL_law (wsV RL 54 RX7 yX7_sign wsX7_sign) := goodIn_app (goodIn_of _ (by decide +kernel)) ggL_law_X7_sign
set_option maxRecDepth 20000 in
theorem ggL_law_X6_write : GoodIn wsL_law wsX6_write := goodIn_r _ [307, 25, 308, 309, 310, 24, 311, 312, 50, 313, 314, 315, 316, 795, 796, 797, 798, 799, 800, 801, 802, 803, 804, 828, 829] (by decide +kernel) (by decide +kernel)
set_option maxRecDepth 20000 in
theorem gL_law_X6_write : GoodIn wsL_law (wsV RL 55 RX6 yX6_write wsX6_write) := goodIn_app (goodIn_of _ (by decide +kernel)) ggL_law_X6_write
set_option maxRecDepth 20000 in
theorem ggL_law_X7_write : GoodIn wsL_law wsX7_write := goodIn_r _ [320, 321, 322, 70, 127, 128, 5, 129, 805, 806, 807, 808, 809, 810, 811, 812, 813, 814, 815, 816, 817, 818, 819, 820, 821, 822] (by decide +kernel) (by decide +kernel)
set_option maxRecDepth 20000 in
theorem gL_law_X7_write : GoodIn wsL_law (wsV RL 59 RX7 yX7_write wsX7_write) := goodIn_app (goodIn_of _ (by decide +kernel)) ggL_law_X7_write
set_option maxRecDepth 20000 in
theorem ggL_law_X6_wipe : GoodIn wsL_law wsX6_wipe := goodIn_r _ [326, 25, 795, 796, 797, 798, 799, 800, 801, 802, 803, 804, 828, 829] (by decide +kernel) (by decide +kernel)
set_option maxRecDepth 20000 in
theorem gL_law_X6_wipe : GoodIn wsL_law (wsV RL 60 RX6 yX6_wipe wsX6_wipe) := goodIn_app (goodIn_of _ (by decide +kernel)) ggL_law_X6_wipe
set_option maxRecDepth 20000 in
theorem ggL_law_X7_wipe : GoodIn wsL_law wsX7_wipe := goodIn_r _ [330, 322, 805, 806, 807, 808, 809, 810, 811, 812, 813, 814, 815, 816, 817, 818, 819, 820, 821, 822] (by decide +kernel) (by decide +kernel)
set_option maxRecDepth 20000 in
theorem gL_law_X7_wipe : GoodIn wsL_law (wsV RL 64 RX7 yX7_wipe wsX7_wipe) := goodIn_app (goodIn_of _ (by decide +kernel)) ggL_law_X7_wipe
set_option maxRecDepth 20000 in
theorem ggL_law_X6_fault : GoodIn wsL_law wsX6_fault := goodIn_r _ [334, 25, 29, 335, 336, 337, 28, 338, 339, 340, 341, 342, 343, 344, 345, 346, 24, 347, 312, 50, 348, 349, 350, 351, 352, 353, 354, 355, 795, 796, 797, 798, 799, 800, 801, 802, 803, 804, 828, 829, 830, 831, 832, 833, 834] (by decide +kernel) (by decide +kernel)
set_option maxRecDepth 20000 in
theorem gL_law_X6_fault : GoodIn wsL_law (wsV RL 65 RX6 yX6_fault wsX6_fault) := goodIn_app (goodIn_of _ (by decide +kernel)) ggL_law_X6_fault
set_option maxRecDepth 20000 in
theorem ggL_law_X7_fault : GoodIn wsL_law wsX7_fault := goodIn_r _ [359, 360, 361, 322, 362, 363, 364, 5, 365, 70, 125, 366, 367, 76, 77, 78, 79, 368, 369, 370, 371, 372, 373, 374, 127, 128, 129, 375, 376, 377, 378, 805, 806, 807, 808, 809, 810, 811, 812, 813, 814, 815, 816, 817, 818, 819, 820, 821, 822] (by decide +kernel) (by decide +kernel)
set_option maxRecDepth 20000 in
theorem gL_law_X7_fault : GoodIn wsL_law (wsV RL 68 RX7 yX7_fault wsX7_fault) := goodIn_app (goodIn_of _ (by decide +kernel)) ggL_law_X7_fault
set_option maxRecDepth 20000 in
theorem ggL_law_X6_lay : GoodIn wsL_law wsX6_lay := goodIn_r _ [382, 383, 33, 29, 25, 384, 332, 333, 2, 334, 335, 336, 337, 28, 338, 339, 340, 341, 342, 343, 344, 345, 346, 24, 347, 312, 50, 348, 349, 350, 351, 352, 353, 354, 355, 385, 386, 387, 388, 389, 156, 157, 158, 159, 160, 161, 390, 391, 392, 32, 393, 394, 395, 396, 397, 398, 62, 59, 60, 399, 400, 401, 402, 403, 163, 164, 404, 405, 406, 407, 63, 64, 408, 409, 410, 411, 412, 413, 414, 415, 416, 417, 418, 419, 420, 421, 422, 423, 795, 796, 797, 798, 799, 800, 801, 802, 803, 804, 830, 831, 832, 833, 834, 828, 829, 835, 836, 837, 838, 839, 840] (by decide +kernel) (by decide +kernel)
set_option maxRecDepth 20000 in
theorem gL_law_X6_lay : GoodIn wsL_law (wsV RL 69 RX6 yX6_lay wsX6_lay) := goodIn_app (goodIn_of _ (by decide +kernel)) ggL_law_X6_lay
set_option maxRecDepth 20000 in
theorem ggL_law_X7_lay : GoodIn wsL_law wsX7_lay := goodIn_r _ [427, 361, 79, 428, 71, 429, 72, 76, 73, 77, 74, 78, 75, 430, 357, 358, 5, 359, 360, 322, 362, 363, 364, 365, 70, 125, 366, 367, 368, 369, 370, 371, 372, 373, 374, 127, 128, 129, 375, 376, 377, 378, 133, 134, 135, 805, 806, 807, 808, 809, 810, 811, 812, 813, 814, 815, 816, 817, 818, 819, 820, 821, 822] (by decide +kernel) (by decide +kernel)
set_option maxRecDepth 20000 in
theorem gL_law_X7_lay : GoodIn wsL_law (wsV RL 72 RX7 yX7_lay wsX7_lay) := goodIn_app (goodIn_of _ (by decide +kernel)) ggL_law_X7_lay
set_option maxRecDepth 20000 in
theorem ggL_law_X6_left : GoodIn wsL_law wsX6_left := goodIn_r _ [434, 33, 795, 796, 797, 798, 799, 800, 801, 802, 803, 804, 835, 836, 837, 838, 839, 840] (by decide +kernel) (by decide +kernel)
set_option maxRecDepth 20000 in
theorem gL_law_X6_left : GoodIn wsL_law (wsV RL 73 RX6 yX6_left wsX6_left) := goodIn_app (goodIn_of _ (by decide +kernel)) ggL_law_X6_left
set_option maxRecDepth 20000 in
theorem ggL_law_X7_left : GoodIn wsL_law wsX7_left := goodIn_r _ [438, 439, 440, 441, 5, 442, 71, 443, 444, 445, 446, 429, 447, 448, 449, 450, 75, 72, 73, 74, 243, 244, 245, 125, 127, 128, 129, 805, 806, 807, 808, 809, 810, 811, 812, 813, 814, 815, 816, 817, 818, 819, 820, 821, 822] (by decide +kernel) (by decide +kernel)
set_option maxRecDepth 20000 in
theorem gL_law_X7_left : GoodIn wsL_law (wsV RL 76 RX7 yX7_left wsX7_left) := goodIn_app (goodIn_of _ (by decide +kernel)) ggL_law_X7_left
set_option maxRecDepth 20000 in
theorem ggL_law_X6_ith : GoodIn wsL_law wsX6_ith := goodIn_r _ [454, 455, 456, 33, 457, 458, 459, 32, 460, 64, 461, 63, 462, 409, 410, 411, 412, 394, 413, 414, 415, 416, 408, 59, 60, 417, 418, 419, 420, 421, 422, 423, 463, 464, 465, 466, 467, 468, 795, 796, 797, 798, 799, 800, 801, 802, 803, 804, 835, 836, 837, 838, 839, 840] (by decide +kernel) (by decide +kernel)
set_option maxRecDepth 20000 in
theorem gL_law_X6_ith : GoodIn wsL_law (wsV RL 77 RX6 yX6_ith wsX6_ith) := goodIn_app (goodIn_of _ (by decide +kernel)) ggL_law_X6_ith
set_option maxRecDepth 20000 in
theorem ggL_law_X7_ith : GoodIn wsL_law wsX7_ith := goodIn_r _ [472, 473, 474, 475, 71, 127, 128, 5, 129, 439, 440, 441, 442, 443, 444, 445, 446, 429, 447, 448, 449, 450, 75, 72, 73, 74, 243, 244, 245, 125, 805, 806, 807, 808, 809, 810, 811, 812, 813, 814, 815, 816, 817, 818, 819, 820, 821, 822] (by decide +kernel) (by decide +kernel)
set_option maxRecDepth 20000 in
theorem gL_law_X7_ith : GoodIn wsL_law (wsV RL 81 RX7 yX7_ith wsX7_ith) := goodIn_app (goodIn_of _ (by decide +kernel)) ggL_law_X7_ith
