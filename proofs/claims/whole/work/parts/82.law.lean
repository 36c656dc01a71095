set_option maxRecDepth 20000 in
theorem ggL_law_X6_init : GoodIn wsL_law wsX6_init := goodIn_r _ [9, 10, 11, 12, 13, 14, 15, 16, 17, 18, 19, 20, 21, 22, 23, 24, 25, 26, 27, 28, 29, 30, 31, 32, 33, 34, 35, 36, 37, 38, 39, 40, 41, 42, 43, 44, 45, 46, 47, 48, 49, 50, 51, 52, 53, 54, 55, 56, 57, 58, 59, 60, 61, 62, 63, 822, 823, 824, 794, 795, 796, 797, 798, 799, 800, 801, 802, 803, 825, 826, 827, 828, 829, 830, 831, 832, 833, 834, 835, 836, 837, 838] (by decide +kernel) (by decide +kernel)
set_option maxRecDepth 20000 in
theorem gL_law_X6_init : GoodIn wsL_law (wsX6_init) := ggL_law_X6_init
set_option maxRecDepth 20000 in
theorem ggL_law_X7_init : GoodIn wsL_law wsX7_init := goodIn_r _ [66, 67, 11, 12, 68, 69, 70, 34, 71, 72, 73, 74, 75, 76, 77, 78, 79, 80, 60, 81, 82, 83, 804, 805, 806, 807, 808, 809, 810, 811, 812, 813, 814, 815, 816, 817, 818, 819, 820, 821] (by decide +kernel) (by decide +kernel)
set_option maxRecDepth 20000 in
theorem gL_law_X7_init : GoodIn wsL_law (wsX7_init) := ggL_law_X7_init
set_option maxRecDepth 20000 in
theorem ggL_law_X7_units : GoodIn wsL_law wsX7_units := goodIn_r _ [120, 121, 122, 5, 123, 124, 125, 126, 127, 128, 129, 130, 131, 132, 133, 134] (by decide +kernel) (by decide +kernel)
set_option maxRecDepth 20000 in
theorem gL_law_X7_units : GoodIn wsL_law (wsV RL 17 RX7 yX7_units wsX7_units) := goodIn_app (goodIn_of _ (by decide +kernel)) ggL_law_X7_units
set_option maxRecDepth 20000 in
theorem ggL_law_X6_order : GoodIn wsL_law wsX6_order := goodIn_r _ [138, 16, 88, 89, 2, 90, 91, 139, 140, 141, 92, 93, 94, 15, 95, 96, 97, 98, 99, 100, 40, 41, 109, 110, 111, 112, 113, 114, 115, 116, 142, 143, 144, 145, 17, 146, 147, 148, 149, 150, 151, 152, 153, 105, 106, 107, 108, 154, 155, 156, 157, 158, 159, 160, 161, 162, 794, 795, 796, 797, 798, 799, 800, 801, 802, 803, 822, 823, 824] (by decide +kernel) (by decide +kernel)
set_option maxRecDepth 20000 in
theorem gL_law_X6_order : GoodIn wsL_law (wsV RL 18 RX6 yX6_order wsX6_order) := goodIn_app (goodIn_of _ (by decide +kernel)) ggL_law_X6_order
set_option maxRecDepth 20000 in
theorem ggL_law_X7_order : GoodIn wsL_law wsX7_order := goodIn_r _ [166, 121, 122, 5, 123, 124, 125, 126, 127, 128, 167, 168, 169, 129, 130, 131, 132, 133, 134, 170, 171, 172] (by decide +kernel) (by decide +kernel)
set_option maxRecDepth 20000 in
theorem gL_law_X7_order : GoodIn wsL_law (wsV RL 21 RX7 yX7_order wsX7_order) := goodIn_app (goodIn_of _ (by decide +kernel)) ggL_law_X7_order
set_option maxRecDepth 20000 in
theorem ggL_law_X6_orders : GoodIn wsL_law wsX6_orders := goodIn_r _ [176, 91, 16, 88, 89, 2, 90, 92, 93, 94, 15, 95, 96, 97, 98, 99, 100, 40, 41, 146, 147, 148, 149, 150, 151, 152, 153, 105, 106, 107, 108, 154, 155, 115, 156, 157, 158, 159, 177, 178, 179, 180, 17, 181, 182, 183, 184, 185, 794, 795, 796, 797, 798, 799, 800, 801, 802, 803, 822, 823, 824] (by decide +kernel) (by decide +kernel)
set_option maxRecDepth 20000 in
theorem gL_law_X6_orders : GoodIn wsL_law (wsV RL 22 RX6 yX6_orders wsX6_orders) := goodIn_app (goodIn_of _ (by decide +kernel)) ggL_law_X6_orders
set_option maxRecDepth 20000 in
theorem ggL_law_X7_orders : GoodIn wsL_law wsX7_orders := goodIn_r _ [189, 125, 80, 121, 122, 5, 123, 124, 126, 127, 128, 190, 191, 192, 193, 129, 130, 131, 132, 133, 134, 170, 171, 172, 804, 805, 806, 807, 808, 809, 810, 811, 812, 813, 814, 815, 816, 817, 818, 819, 820, 821] (by decide +kernel) (by decide +kernel)
set_option maxRecDepth 20000 in
theorem gL_law_X7_orders : GoodIn wsL_law (wsV RL 26 RX7 yX7_orders wsX7_orders) := goodIn_app (goodIn_of _ (by decide +kernel)) ggL_law_X7_orders
set_option maxRecDepth 20000 in
theorem ggL_law_X6_makers : GoodIn wsL_law wsX6_makers := goodIn_r _ [197, 16, 17, 21, 88, 89, 2, 90, 91, 92, 93, 94, 15, 95, 96, 97, 98, 99, 100, 40, 41, 101, 102, 103, 104, 105, 106, 107, 108, 146, 147, 148, 149, 150, 151, 152, 153, 154, 155, 115, 156, 157, 158, 159, 198, 199, 200, 201, 202, 203, 204, 205, 206, 207, 208, 209, 160, 161, 162, 210, 211, 212, 20, 213, 46, 109, 110, 111, 112, 113, 114, 116, 214, 215, 216, 217, 218, 219, 220, 221, 222, 223, 224, 225, 226, 794, 795, 796, 797, 798, 799, 800, 801, 802, 803, 822, 823, 824, 825] (by decide +kernel) (by decide +kernel)
set_option maxRecDepth 20000 in
theorem gL_law_X6_makers : GoodIn wsL_law (wsV RL 27 RX6 yX6_makers wsX6_makers) := goodIn_app (goodIn_of _ (by decide +kernel)) ggL_law_X6_makers
set_option maxRecDepth 20000 in
theorem ggL_law_X7_makers : GoodIn wsL_law wsX7_makers := goodIn_r _ [230, 80, 121, 122, 5, 123, 124, 125, 126, 127, 128, 190, 191, 192, 193, 129, 130, 131, 132, 133, 134, 170, 171, 172, 804, 805, 806, 807, 808, 809, 810, 811, 812, 813, 814, 815, 816, 817, 818, 819, 820, 821] (by decide +kernel) (by decide +kernel)
set_option maxRecDepth 20000 in
theorem gL_law_X7_makers : GoodIn wsL_law (wsV RL 30 RX7 yX7_makers wsX7_makers) := goodIn_app (goodIn_of _ (by decide +kernel)) ggL_law_X7_makers
set_option maxRecDepth 20000 in
theorem ggL_law_X6_power : GoodIn wsL_law wsX6_power := goodIn_r _ [234, 235, 88, 89, 2, 90, 91, 139, 140, 141, 160, 161, 115, 162] (by decide +kernel) (by decide +kernel)
set_option maxRecDepth 20000 in
theorem gL_law_X6_power : GoodIn wsL_law (wsV RL 33 RX6 yX6_power wsX6_power) := goodIn_app (goodIn_of _ (by decide +kernel)) ggL_law_X6_power
set_option maxRecDepth 20000 in
theorem ggL_law_X7_power : GoodIn wsL_law wsX7_power := goodIn_r _ [239, 240, 121, 122, 5, 123, 124, 125, 126, 127, 128, 167, 168, 169, 241, 242, 243] (by decide +kernel) (by decide +kernel)
set_option maxRecDepth 20000 in
theorem gL_law_X7_power : GoodIn wsL_law (wsV RL 37 RX7 yX7_power wsX7_power) := goodIn_app (goodIn_of _ (by decide +kernel)) ggL_law_X7_power
set_option maxRecDepth 20000 in
theorem ggL_law_X6_log : GoodIn wsL_law wsX6_log := goodIn_r _ [247, 88, 89, 2, 90, 91, 139, 140, 141, 248, 249, 250, 218, 114, 115, 116] (by decide +kernel) (by decide +kernel)
set_option maxRecDepth 20000 in
theorem gL_law_X6_log : GoodIn wsL_law (wsV RL 38 RX6 yX6_log wsX6_log) := goodIn_app (goodIn_of _ (by decide +kernel)) ggL_law_X6_log
set_option maxRecDepth 20000 in
theorem ggL_law_X7_log : GoodIn wsL_law wsX7_log := goodIn_r _ [254, 121, 122, 5, 123, 124, 125, 126, 127, 128, 167, 168, 169] (by decide +kernel) (by decide +kernel)
set_option maxRecDepth 20000 in
theorem gL_law_X7_log : GoodIn wsL_law (wsV RL 41 RX7 yX7_log wsX7_log) := goodIn_app (goodIn_of _ (by decide +kernel)) ggL_law_X7_log
set_option maxRecDepth 20000 in
theorem ggL_law_X6_roots : GoodIn wsL_law wsX6_roots := goodIn_r _ [258, 88, 89, 2, 90, 91, 139, 140, 141, 160, 161, 115, 162] (by decide +kernel) (by decide +kernel)
set_option maxRecDepth 20000 in
theorem gL_law_X6_roots : GoodIn wsL_law (wsV RL 42 RX6 yX6_roots wsX6_roots) := goodIn_app (goodIn_of _ (by decide +kernel)) ggL_law_X6_roots
set_option maxRecDepth 20000 in
theorem ggL_law_X7_roots : GoodIn wsL_law wsX7_roots := goodIn_r _ [262, 263, 121, 122, 5, 123, 124, 125, 126, 127, 128, 167, 168, 169, 241, 242, 243] (by decide +kernel) (by decide +kernel)
set_option maxRecDepth 20000 in
theorem gL_law_X7_roots : GoodIn wsL_law (wsV RL 46 RX7 yX7_roots wsX7_roots) := goodIn_app (goodIn_of _ (by decide +kernel)) ggL_law_X7_roots
set_option maxRecDepth 20000 in
theorem ggL_law_X6_squares : GoodIn wsL_law wsX6_squares := goodIn_r _ [267, 16, 88, 89, 2, 90, 91, 92, 93, 94, 15, 95, 96, 97, 98, 99, 100, 40, 41, 268, 269, 270, 271, 21, 272, 210, 211, 212, 20, 213, 46, 218, 114, 115, 116, 214, 215, 216, 217, 273, 274, 275, 276, 277, 224, 225, 226, 109, 110, 111, 112, 113, 278, 279, 280, 281, 794, 795, 796, 797, 798, 799, 800, 801, 802, 803, 822, 823, 824, 825] (by decide +kernel) (by decide +kernel)
set_option maxRecDepth 20000 in
theorem gL_law_X6_squares : GoodIn wsL_law (wsV RL 47 RX6 yX6_squares wsX6_squares) := goodIn_app (goodIn_of _ (by decide +kernel)) ggL_law_X6_squares
set_option maxRecDepth 20000 in
theorem ggL_law_X7_squares : GoodIn wsL_law wsX7_squares := goodIn_r _ [285, 286, 81, 121, 122, 5, 123, 124, 125, 126, 127, 128, 129, 130, 131, 132, 133, 134, 804, 805, 806, 807, 808, 809, 810, 811, 812, 813, 814, 815, 816, 817, 818, 819, 820, 821] (by decide +kernel) (by decide +kernel)
set_option maxRecDepth 20000 in
theorem gL_law_X7_squares : GoodIn wsL_law (wsV RL 50 RX7 yX7_squares wsX7_squares) := goodIn_app (goodIn_of _ (by decide +kernel)) ggL_law_X7_squares
set_option maxRecDepth 20000 in
theorem ggL_law_X6_sign : GoodIn wsL_law wsX6_sign := goodIn_r _ [290, 291, 292, 16, 92, 93, 94, 15, 95, 96, 97, 98, 99, 100, 40, 41, 293, 294, 2, 295, 218, 114, 115, 116, 160, 161, 162, 794, 795, 796, 797, 798, 799, 800, 801, 802, 803, 822, 823, 824] (by decide +kernel) (by decide +kernel)
set_option maxRecDepth 20000 in
theorem gL_law_X6_sign : GoodIn wsL_law (wsV RL 51 RX6 yX6_sign wsX6_sign) := goodIn_app (goodIn_of _ (by decide +kernel)) ggL_law_X6_sign
set_option maxRecDepth 20000 in
theorem ggL_law_X7_sign : GoodIn wsL_law wsX7_sign := goodIn_r _ [299, 300, 301, 126, 127, 5, 128, 241, 242, 243, 124] (by decide +kernel) (by decide +kernel)
set_option maxRecDepth 20000 in
theorem gL_law_X7_sign : GoodIn wsL_law (wsV RL 54 RX7 yX7_sign wsX7_sign) := goodIn_app (goodIn_of _ (by decide +kernel)) ggL_law_X7_sign
set_option maxRecDepth 20000 in
theorem ggL_law_X6_write : GoodIn wsL_law wsX6_write := goodIn_r _ [305, 25, 306, 307, 308, 24, 309, 310, 50, 311, 312, 313, 314, 794, 795, 796, 797, 798, 799, 800, 801, 802, 803, 826, 827] (by decide +kernel) (by decide +kernel)
set_option maxRecDepth 20000 in
theorem gL_law_X6_write : GoodIn wsL_law (wsV RL 55 RX6 yX6_write wsX6_write) := goodIn_app (goodIn_of _ (by decide +kernel)) ggL_law_X6_write
set_option maxRecDepth 20000 in
theorem ggL_law_X7_write : GoodIn wsL_law wsX7_write := goodIn_r _ [318, 319, 320, 69, 126, 127, 5, 128, 804, 805, 806, 807, 808, 809, 810, 811, 812, 813, 814, 815, 816, 817, 818, 819, 820, 821] (by decide +kernel) (by decide +kernel)
set_option maxRecDepth 20000 in
theorem gL_law_X7_write : GoodIn wsL_law (wsV RL 59 RX7 yX7_write wsX7_write) := goodIn_app (goodIn_of _ (by decide +kernel)) ggL_law_X7_write
set_option maxRecDepth 20000 in
theorem ggL_law_X6_wipe : GoodIn wsL_law wsX6_wipe := goodIn_r _ [324, 25, 794, 795, 796, 797, 798, 799, 800, 801, 802, 803, 826, 827] (by decide +kernel) (by decide +kernel)
set_option maxRecDepth 20000 in
theorem gL_law_X6_wipe : GoodIn wsL_law (wsV RL 60 RX6 yX6_wipe wsX6_wipe) := goodIn_app (goodIn_of _ (by decide +kernel)) ggL_law_X6_wipe
set_option maxRecDepth 20000 in
theorem ggL_law_X7_wipe : GoodIn wsL_law wsX7_wipe := goodIn_r _ [328, 320, 804, 805, 806, 807, 808, 809, 810, 811, 812, 813, 814, 815, 816, 817, 818, 819, 820, 821] (by decide +kernel) (by decide +kernel)
set_option maxRecDepth 20000 in
theorem gL_law_X7_wipe : GoodIn wsL_law (wsV RL 64 RX7 yX7_wipe wsX7_wipe) := goodIn_app (goodIn_of _ (by decide +kernel)) ggL_law_X7_wipe
set_option maxRecDepth 20000 in
theorem ggL_law_X6_fault : GoodIn wsL_law wsX6_fault := goodIn_r _ [332, 25, 29, 333, 334, 335, 28, 336, 337, 338, 339, 340, 341, 342, 343, 344, 24, 345, 310, 50, 346, 347, 348, 349, 350, 351, 352, 353, 794, 795, 796, 797, 798, 799, 800, 801, 802, 803, 826, 827, 828, 829, 830, 831, 832] (by decide +kernel) (by decide +kernel)
set_option maxRecDepth 20000 in
theorem gL_law_X6_fault : GoodIn wsL_law (wsV RL 65 RX6 yX6_fault wsX6_fault) := goodIn_app (goodIn_of _ (by decide +kernel)) ggL_law_X6_fault
set_option maxRecDepth 20000 in
theorem ggL_law_X7_fault : GoodIn wsL_law wsX7_fault := goodIn_r _ [357, 358, 359, 320, 360, 361, 362, 5, 363, 69, 124, 364, 365, 75, 76, 77, 78, 366, 367, 368, 369, 370, 371, 372, 126, 127, 128, 373, 374, 375, 376, 804, 805, 806, 807, 808, 809, 810, 811, 812, 813, 814, 815, 816, 817, 818, 819, 820, 821] (by decide +kernel) (by decide +kernel)
set_option maxRecDepth 20000 in
theorem gL_law_X7_fault : GoodIn wsL_law (wsV RL 68 RX7 yX7_fault wsX7_fault) := goodIn_app (goodIn_of _ (by decide +kernel)) ggL_law_X7_fault
set_option maxRecDepth 20000 in
theorem ggL_law_X6_lay : GoodIn wsL_law wsX6_lay := goodIn_r _ [380, 381, 33, 29, 25, 382, 330, 331, 2, 332, 333, 334, 335, 28, 336, 337, 338, 339, 340, 341, 342, 343, 344, 24, 345, 310, 50, 346, 347, 348, 349, 350, 351, 352, 353, 383, 384, 385, 386, 387, 155, 115, 156, 157, 158, 159, 388, 389, 390, 32, 391, 392, 393, 394, 395, 396, 61, 58, 59, 397, 398, 399, 400, 401, 161, 162, 402, 403, 404, 405, 62, 63, 406, 407, 408, 409, 410, 411, 412, 413, 414, 415, 114, 116, 416, 417, 418, 419, 420, 421, 422, 794, 795, 796, 797, 798, 799, 800, 801, 802, 803, 828, 829, 830, 831, 832, 826, 827, 833, 834, 835, 836, 837, 838] (by decide +kernel) (by decide +kernel)
set_option maxRecDepth 20000 in
theorem gL_law_X6_lay : GoodIn wsL_law (wsV RL 69 RX6 yX6_lay wsX6_lay) := goodIn_app (goodIn_of _ (by decide +kernel)) ggL_law_X6_lay
set_option maxRecDepth 20000 in
theorem ggL_law_X7_lay : GoodIn wsL_law wsX7_lay := goodIn_r _ [426, 359, 78, 427, 70, 428, 71, 75, 72, 76, 73, 77, 74, 429, 355, 356, 5, 357, 358, 320, 360, 361, 362, 363, 69, 124, 364, 365, 366, 367, 368, 369, 370, 371, 372, 126, 127, 128, 373, 374, 375, 376, 132, 133, 134, 804, 805, 806, 807, 808, 809, 810, 811, 812, 813, 814, 815, 816, 817, 818, 819, 820, 821] (by decide +kernel) (by decide +kernel)
set_option maxRecDepth 20000 in
theorem gL_law_X7_lay : GoodIn wsL_law (wsV RL 72 RX7 yX7_lay wsX7_lay) := goodIn_app (goodIn_of _ (by decide +kernel)) ggL_law_X7_lay
set_option maxRecDepth 20000 in
theorem ggL_law_X6_left : GoodIn wsL_law wsX6_left := goodIn_r _ [433, 33, 794, 795, 796, 797, 798, 799, 800, 801, 802, 803, 833, 834, 835, 836, 837, 838] (by decide +kernel) (by decide +kernel)
set_option maxRecDepth 20000 in
theorem gL_law_X6_left : GoodIn wsL_law (wsV RL 73 RX6 yX6_left wsX6_left) := goodIn_app (goodIn_of _ (by decide +kernel)) ggL_law_X6_left
set_option maxRecDepth 20000 in
theorem ggL_law_X7_left : GoodIn wsL_law wsX7_left := goodIn_r _ [437, 438, 439, 440, 5, 441, 70, 442, 443, 444, 445, 428, 446, 447, 448, 449, 74, 71, 72, 73, 241, 242, 243, 124, 126, 127, 128, 804, 805, 806, 807, 808, 809, 810, 811, 812, 813, 814, 815, 816, 817, 818, 819, 820, 821] (by decide +kernel) (by decide +kernel)
set_option maxRecDepth 20000 in
theorem gL_law_X7_left : GoodIn wsL_law (wsV RL 76 RX7 yX7_left wsX7_left) := goodIn_app (goodIn_of _ (by decide +kernel)) ggL_law_X7_left
set_option maxRecDepth 20000 in
theorem ggL_law_X6_ith : GoodIn wsL_law wsX6_ith := goodIn_r _ [453, 454, 455, 33, 456, 457, 458, 32, 459, 63, 460, 62, 461, 407, 408, 409, 410, 392, 411, 412, 413, 414, 406, 58, 59, 415, 114, 115, 116, 416, 417, 418, 419, 420, 421, 422, 462, 463, 464, 465, 466, 467, 794, 795, 796, 797, 798, 799, 800, 801, 802, 803, 833, 834, 835, 836, 837, 838] (by decide +kernel) (by decide +kernel)
set_option maxRecDepth 20000 in
theorem gL_law_X6_ith : GoodIn wsL_law (wsV RL 77 RX6 yX6_ith wsX6_ith) := goodIn_app (goodIn_of _ (by decide +kernel)) ggL_law_X6_ith
set_option maxRecDepth 20000 in
theorem ggL_law_X7_ith : GoodIn wsL_law wsX7_ith := goodIn_r _ [471, 472, 473, 474, 70, 126, 127, 5, 128, 438, 439, 440, 441, 442, 443, 444, 445, 428, 446, 447, 448, 449, 74, 71, 72, 73, 241, 242, 243, 124, 804, 805, 806, 807, 808, 809, 810, 811, 812, 813, 814, 815, 816, 817, 818, 819, 820, 821] (by decide +kernel) (by decide +kernel)
set_option maxRecDepth 20000 in
theorem gL_law_X7_ith : GoodIn wsL_law (wsV RL 81 RX7 yX7_ith wsX7_ith) := goodIn_app (goodIn_of _ (by decide +kernel)) ggL_law_X7_ith
