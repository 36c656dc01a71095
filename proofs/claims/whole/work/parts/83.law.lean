set_option maxRecDepth 20000 in
theorem ggL_law_X6_from : GoodIn wsL_law wsX6_from := goodIn_r _ [479, 480, 456, 33, 481, 482, 483, 32, 484, 64, 461, 462, 408, 63, 409, 410, 411, 412, 394, 413, 414, 415, 416, 59, 60, 466, 467, 468, 417, 418, 419, 420, 421, 422, 423, 795, 796, 797, 798, 799, 800, 801, 802, 803, 804, 835, 836, 837, 838, 839, 840] (by decide +kernel) (by decide +kernel)
set_option maxRecDepth 20000 in
theorem gL_law_X6_from : GoodIn wsL_law (wsV RL 82 RX6 yX6_from wsX6_from) := goodIn_app (goodIn_of _ (by decide +kernel)) ggL_law_X6_from
set_option maxRecDepth 20000 in
theorem ggL_law_X7_from : GoodIn wsL_law wsX7_from := goodIn_r _ [488, 489, 474, 71, 475, 127, 128, 5, 129, 443, 444, 445, 446, 429, 447, 448, 449, 450, 75, 72, 73, 74, 243, 244, 245, 125, 805, 806, 807, 808, 809, 810, 811, 812, 813, 814, 815, 816, 817, 818, 819, 820, 821, 822] (by decide +kernel) (by decide +kernel)
set_option maxRecDepth 20000 in
theorem gL_law_X7_from : GoodIn wsL_law (wsV RL 85 RX7 yX7_from wsX7_from) := goodIn_app (goodIn_of _ (by decide +kernel)) ggL_law_X7_from
set_option maxRecDepth 20000 in
theorem ggL_law_X6_needless : GoodIn wsL_law wsX6_needless := goodIn_r _ [493, 33, 494, 495, 496, 32, 497, 63, 409, 410, 411, 412, 394, 413, 414, 415, 416, 408, 59, 60, 795, 796, 797, 798, 799, 800, 801, 802, 803, 804, 835, 836, 837, 838, 839, 840] (by decide +kernel) (by decide +kernel)
set_option maxRecDepth 20000 in
theorem gL_law_X6_needless : GoodIn wsL_law (wsV RL 86 RX6 yX6_needless wsX6_needless) := goodIn_app (goodIn_of _ (by decide +kernel)) ggL_law_X6_needless
set_option maxRecDepth 20000 in
theorem ggL_law_X7_needless : GoodIn wsL_law wsX7_needless := goodIn_r _ [501, 429, 83, 127, 128, 5, 129, 502, 503, 504, 505, 71, 443, 444, 445, 446, 447, 448, 449, 450, 75, 72, 73, 74, 243, 244, 245, 125, 805, 806, 807, 808, 809, 810, 811, 812, 813, 814, 815, 816, 817, 818, 819, 820, 821, 822] (by decide +kernel) (by decide +kernel)
set_option maxRecDepth 20000 in
theorem gL_law_X7_needless : GoodIn wsL_law (wsV RL 90 RX7 yX7_needless wsX7_needless) := goodIn_app (goodIn_of _ (by decide +kernel)) ggL_law_X7_needless
set_option maxRecDepth 20000 in
theorem ggL_law_X6_lone : GoodIn wsL_law wsX6_lone := goodIn_r _ [509, 33, 510, 511, 512, 32, 513, 64, 394, 409, 410, 411, 412, 514, 515, 516, 517, 518, 519, 520, 521, 522, 523, 524, 525, 526, 527, 528, 60, 529, 156, 157, 158, 159, 160, 161, 413, 414, 415, 416, 408, 59, 795, 796, 797, 798, 799, 800, 801, 802, 803, 804, 835, 836, 837, 838, 839, 840] (by decide +kernel) (by decide +kernel)
set_option maxRecDepth 20000 in
theorem gL_law_X6_lone : GoodIn wsL_law (wsV RL 91 RX6 yX6_lone wsX6_lone) := goodIn_app (goodIn_of _ (by decide +kernel)) ggL_law_X6_lone
set_option maxRecDepth 20000 in
theorem ggL_law_X7_lone : GoodIn wsL_law wsX7_lone := goodIn_r _ [533, 429, 83, 502, 503, 504, 5, 505, 71, 443, 444, 445, 446, 447, 448, 449, 450, 75, 72, 73, 74, 243, 244, 245, 125, 127, 128, 129, 534, 535, 536, 805, 806, 807, 808, 809, 810, 811, 812, 813, 814, 815, 816, 817, 818, 819, 820, 821, 822] (by decide +kernel) (by decide +kernel)
set_option maxRecDepth 20000 in
theorem gL_law_X7_lone : GoodIn wsL_law (wsV RL 94 RX7 yX7_lone wsX7_lone) := goodIn_app (goodIn_of _ (by decide +kernel)) ggL_law_X7_lone
set_option maxRecDepth 20000 in
theorem ggL_law_X6_looks : GoodIn wsL_law wsX6_looks := goodIn_r _ [540, 541, 542, 2, 543, 544, 545, 546, 157, 547, 548, 549, 550, 551, 552, 553, 554, 163, 164, 162, 555, 556, 557] (by decide +kernel) (by decide +kernel)
set_option maxRecDepth 20000 in
theorem gL_law_X6_looks : GoodIn wsL_law (wsV RL 95 RX6 yX6_looks wsX6_looks) := goodIn_app (goodIn_of _ (by decide +kernel)) ggL_law_X6_looks
set_option maxRecDepth 20000 in
theorem ggL_law_X7_looks : GoodIn wsL_law wsX7_looks := goodIn_r _ [561, 125, 562, 563, 5, 564, 288, 565, 127, 128, 129, 566, 567, 568, 243, 244, 245, 569, 570, 571, 572, 573, 574] (by decide +kernel) (by decide +kernel)
set_option maxRecDepth 20000 in
theorem gL_law_X7_looks : GoodIn wsL_law (wsV RL 98 RX7 yX7_looks wsX7_looks) := goodIn_app (goodIn_of _ (by decide +kernel)) ggL_law_X7_looks
set_option maxRecDepth 20000 in
theorem ggL_law_X6_lied : GoodIn wsL_law wsX6_lied := goodIn_r _ [578, 16, 541, 542, 2, 543, 544, 579, 580, 581, 555, 556, 157, 557, 545, 546, 547, 548, 549, 550, 551, 552, 553, 554, 163, 164, 93, 94, 95, 15, 96, 97, 98, 99, 100, 101, 40, 41, 582, 583, 584, 585, 586, 160, 161, 587, 588, 589, 590, 591, 592, 593, 594, 595, 596, 795, 796, 797, 798, 799, 800, 801, 802, 803, 804, 823, 824, 825] (by decide +kernel) (by decide +kernel)
set_option maxRecDepth 20000 in
theorem gL_law_X6_lied : GoodIn wsL_law (wsV RL 99 RX6 yX6_lied wsX6_lied) := goodIn_app (goodIn_of _ (by decide +kernel)) ggL_law_X6_lied
set_option maxRecDepth 20000 in
theorem ggL_law_X7_lied : GoodIn wsL_law wsX7_lied := goodIn_r _ [600, 125, 562, 563, 5, 564, 288, 565, 127, 128, 129, 569, 570, 571, 243, 244, 245, 566, 567, 568] (by decide +kernel) (by decide +kernel)
set_option maxRecDepth 20000 in
theorem gL_law_X7_lied : GoodIn wsL_law (wsV RL 102 RX7 yX7_lied wsX7_lied) := goodIn_app (goodIn_of _ (by decide +kernel)) ggL_law_X7_lied
set_option maxRecDepth 20000 in
theorem ggL_law_X6_falseOnes : GoodIn wsL_law wsX6_falseOnes := goodIn_r _ [604, 605, 606, 607, 2, 608, 16, 93, 94, 95, 15, 96, 97, 98, 99, 100, 101, 40, 41, 795, 796, 797, 798, 799, 800, 801, 802, 803, 804, 823, 824, 825] (by decide +kernel) (by decide +kernel)
set_option maxRecDepth 20000 in
theorem gL_law_X6_falseOnes : GoodIn wsL_law (wsV RL 103 RX6 yX6_falseOnes wsX6_falseOnes) := goodIn_app (goodIn_of _ (by decide +kernel)) ggL_law_X6_falseOnes
set_option maxRecDepth 20000 in
theorem ggL_law_X7_falseOnes : GoodIn wsL_law wsX7_falseOnes := goodIn_r _ [612, 288, 613, 127, 128, 5, 129, 614, 615, 616, 572, 573, 574, 130, 131, 132, 133, 134, 135, 569, 570, 571, 243, 244, 245, 125] (by decide +kernel) (by decide +kernel)
set_option maxRecDepth 20000 in
theorem gL_law_X7_falseOnes : GoodIn wsL_law (wsV RL 106 RX7 yX7_falseOnes wsX7_falseOnes) := goodIn_app (goodIn_of _ (by decide +kernel)) ggL_law_X7_falseOnes
set_option maxRecDepth 20000 in
theorem ggL_law_X6_fooled : GoodIn wsL_law wsX6_fooled := goodIn_r _ [620, 544, 621, 36, 622, 623, 624, 2, 625, 626, 545, 546, 157, 547, 548, 549, 550, 551, 552, 553, 554, 163, 164, 555, 556, 557, 627, 628, 629, 795, 796, 797, 798, 799, 800, 801, 802, 803, 804] (by decide +kernel) (by decide +kernel)
set_option maxRecDepth 20000 in
theorem gL_law_X6_fooled : GoodIn wsL_law (wsV RL 107 RX6 yX6_fooled wsX6_fooled) := goodIn_app (goodIn_of _ (by decide +kernel)) ggL_law_X6_fooled
set_option maxRecDepth 20000 in
theorem ggL_law_X7_fooled : GoodIn wsL_law wsX7_fooled := goodIn_r _ [633, 125, 634, 288, 565, 127, 128, 5, 129, 572, 573, 574, 566, 567, 568, 243, 244, 245] (by decide +kernel) (by decide +kernel)
set_option maxRecDepth 20000 in
theorem gL_law_X7_fooled : GoodIn wsL_law (wsV RL 110 RX7 yX7_fooled wsX7_fooled) := goodIn_app (goodIn_of _ (by decide +kernel)) ggL_law_X7_fooled
set_option maxRecDepth 20000 in
theorem ggL_law_X6_broken : GoodIn wsL_law wsX6_broken := goodIn_r _ [638, 639, 640, 2, 641, 89, 90, 91, 92, 642, 643, 644, 645, 646, 647, 586, 160, 157, 161, 162, 163, 164, 648, 649, 650, 651, 143, 144, 145, 146, 16, 17, 93, 94, 95, 15, 96, 97, 98, 99, 100, 101, 40, 41, 147, 148, 149, 150, 151, 152, 153, 154, 106, 107, 108, 109, 110, 111, 112, 113, 155, 156, 158, 159, 795, 796, 797, 798, 799, 800, 801, 802, 803, 804, 823, 824, 825] (by decide +kernel) (by decide +kernel)
set_option maxRecDepth 20000 in
theorem gL_law_X6_broken : GoodIn wsL_law (wsV RL 111 RX6 yX6_broken wsX6_broken) := goodIn_app (goodIn_of _ (by decide +kernel)) ggL_law_X6_broken
set_option maxRecDepth 20000 in
theorem ggL_law_X7_broken : GoodIn wsL_law wsX7_broken := goodIn_r _ [655, 656, 657, 5, 658, 125, 659, 127, 128, 129, 122, 123, 124, 126, 660, 661, 662, 133, 134, 135, 663, 664, 665, 172, 173, 174] (by decide +kernel) (by decide +kernel)
set_option maxRecDepth 20000 in
theorem gL_law_X7_broken : GoodIn wsL_law (wsV RL 114 RX7 yX7_broken wsX7_broken) := goodIn_app (goodIn_of _ (by decide +kernel)) ggL_law_X7_broken
set_option maxRecDepth 20000 in
theorem ggL_law_X6_figure : GoodIn wsL_law wsX6_figure := goodIn_r _ [669, 293, 639, 640, 2, 641, 89, 90, 91, 92, 162, 163, 157, 164] (by decide +kernel) (by decide +kernel)
set_option maxRecDepth 20000 in
theorem gL_law_X6_figure : GoodIn wsL_law (wsV RL 115 RX6 yX6_figure wsX6_figure) := goodIn_app (goodIn_of _ (by decide +kernel)) ggL_law_X6_figure
set_option maxRecDepth 20000 in
theorem ggL_law_X7_figure : GoodIn wsL_law wsX7_figure := goodIn_r _ [673, 302, 656, 657, 5, 658, 125, 659, 127, 128, 129, 122, 123, 124, 126, 243, 244, 245] (by decide +kernel) (by decide +kernel)
set_option maxRecDepth 20000 in
theorem gL_law_X7_figure : GoodIn wsL_law (wsV RL 118 RX7 yX7_figure wsX7_figure) := goodIn_app (goodIn_of _ (by decide +kernel)) ggL_law_X7_figure
set_option maxRecDepth 20000 in
theorem ggL_law_X6_soLong : GoodIn wsL_law wsX6_soLong := goodIn_r _ [677, 17, 639, 640, 2, 641, 93, 94, 95, 15, 96, 97, 98, 99, 100, 101, 40, 41, 678, 679, 680, 681, 645, 646, 647, 586, 160, 157, 161, 208, 209, 210, 211, 162, 163, 164, 795, 796, 797, 798, 799, 800, 801, 802, 803, 804, 823, 824, 825] (by decide +kernel) (by decide +kernel)
set_option maxRecDepth 20000 in
theorem gL_law_X6_soLong : GoodIn wsL_law (wsV RL 119 RX6 yX6_soLong wsX6_soLong) := goodIn_app (goodIn_of _ (by decide +kernel)) ggL_law_X6_soLong
set_option maxRecDepth 20000 in
theorem ggL_law_X7_soLong : GoodIn wsL_law wsX7_soLong := goodIn_r _ [685, 686, 125, 656, 657, 5, 658, 659, 127, 128, 129, 663, 664, 665, 133, 134, 135, 172, 173, 174] (by decide +kernel) (by decide +kernel)
set_option maxRecDepth 20000 in
theorem gL_law_X7_soLong : GoodIn wsL_law (wsV RL 122 RX7 yX7_soLong wsX7_soLong) := goodIn_app (goodIn_of _ (by decide +kernel)) ggL_law_X7_soLong
set_option maxRecDepth 20000 in
theorem ggL_law_X6_turning : GoodIn wsL_law wsX6_turning := goodIn_r _ [690, 639, 640, 2, 641, 89, 90, 91, 92, 555, 556, 157, 557, 648, 649, 650, 651, 645, 646, 647, 586, 160, 161, 143, 144, 145, 146, 16, 17, 93, 94, 95, 15, 96, 97, 98, 99, 100, 101, 40, 41, 147, 148, 149, 150, 151, 152, 153, 154, 106, 107, 108, 109, 110, 111, 112, 113, 155, 156, 158, 159, 162, 163, 164, 250, 251, 252, 795, 796, 797, 798, 799, 800, 801, 802, 803, 804, 823, 824, 825] (by decide +kernel) (by decide +kernel)
set_option maxRecDepth 20000 in
theorem gL_law_X6_turning : GoodIn wsL_law (wsV RL 123 RX6 yX6_turning wsX6_turning) := goodIn_app (goodIn_of _ (by decide +kernel)) ggL_law_X6_turning
set_option maxRecDepth 20000 in
theorem ggL_law_X7_turning : GoodIn wsL_law wsX7_turning := goodIn_r _ [694, 656, 657, 5, 658, 125, 659, 127, 128, 129, 122, 123, 124, 126, 572, 573, 574, 663, 664, 665, 133, 134, 135, 172, 173, 174] (by decide +kernel) (by decide +kernel)
set_option maxRecDepth 20000 in
theorem gL_law_X7_turning : GoodIn wsL_law (wsV RL 126 RX7 yX7_turning wsX7_turning) := goodIn_app (goodIn_of _ (by decide +kernel)) ggL_law_X7_turning
set_option maxRecDepth 20000 in
theorem ggL_law_X7_tower : GoodIn wsL_law wsX7_tower := goodIn_r _ [720, 721, 84, 722, 723, 125, 122, 123, 5, 124, 126, 127, 128, 129, 724, 725, 726, 727, 728, 729, 805, 806, 807, 808, 809, 810, 811, 812, 813, 814, 815, 816, 817, 818, 819, 820, 821, 822] (by decide +kernel) (by decide +kernel)
set_option maxRecDepth 20000 in
theorem gL_law_X7_tower : GoodIn wsL_law (wsV RL 130 RX7 yX7_tower wsX7_tower) := goodIn_app (goodIn_of _ (by decide +kernel)) ggL_law_X7_tower
set_option maxRecDepth 20000 in
theorem ggL_law_X6_back : GoodIn wsL_law wsX6_back := goodIn_r _ [733, 16, 734, 735, 2, 736, 737, 738, 739, 740, 555, 556, 157, 557, 741, 742, 743, 586, 160, 161, 389, 156, 158, 159, 93, 94, 95, 15, 96, 97, 98, 99, 100, 101, 40, 41, 147, 148, 149, 150, 151, 152, 153, 154, 106, 107, 108, 109, 110, 111, 112, 113, 155, 162, 163, 164, 795, 796, 797, 798, 799, 800, 801, 802, 803, 804, 823, 824, 825] (by decide +kernel) (by decide +kernel)
set_option maxRecDepth 20000 in
theorem gL_law_X6_back : GoodIn wsL_law (wsV RL 131 RX6 yX6_back wsX6_back) := goodIn_app (goodIn_of _ (by decide +kernel)) ggL_law_X6_back
set_option maxRecDepth 20000 in
theorem ggL_law_X7_back : GoodIn wsL_law wsX7_back := goodIn_r _ [747, 748, 749, 750, 5, 751, 125, 752, 127, 128, 129, 572, 573, 574, 753, 754, 755, 133, 134, 135, 756, 757, 758] (by decide +kernel) (by decide +kernel)
set_option maxRecDepth 20000 in
theorem gL_law_X7_back : GoodIn wsL_law (wsV RL 134 RX7 yX7_back wsX7_back) := goodIn_app (goodIn_of _ (by decide +kernel)) ggL_law_X7_back
set_option maxRecDepth 20000 in
theorem ggL_law_X6_stay : GoodIn wsL_law wsX6_stay := goodIn_r _ [762, 21, 734, 735, 2, 736, 737, 738, 739, 740, 555, 556, 157, 557, 741, 742, 743, 586, 160, 161, 212, 213, 214, 20, 215, 216, 763, 764, 765, 766, 162, 163, 164, 217, 218, 219, 220, 46, 767, 768, 769, 770, 279, 226, 227, 228, 795, 796, 797, 798, 799, 800, 801, 802, 803, 804, 826, 827] (by decide +kernel) (by decide +kernel)
set_option maxRecDepth 20000 in
theorem gL_law_X6_stay : GoodIn wsL_law (wsV RL 135 RX6 yX6_stay wsX6_stay) := goodIn_app (goodIn_of _ (by decide +kernel)) ggL_law_X6_stay
set_option maxRecDepth 20000 in
theorem ggL_law_X7_stay : GoodIn wsL_law wsX7_stay := goodIn_r _ [774, 748, 749, 750, 5, 751, 125, 752, 127, 128, 129, 572, 573, 574, 753, 754, 755, 133, 134, 135, 243, 244, 245] (by decide +kernel) (by decide +kernel)
set_option maxRecDepth 20000 in
theorem gL_law_X7_stay : GoodIn wsL_law (wsV RL 138 RX7 yX7_stay wsX7_stay) := goodIn_app (goodIn_of _ (by decide +kernel)) ggL_law_X7_stay
set_option maxRecDepth 20000 in
theorem ggL_law_X6_rounds : GoodIn wsL_law wsX6_rounds := goodIn_r _ [778, 734, 735, 2, 736, 737, 738, 739, 740, 555, 556, 157, 557, 741, 742, 743, 586, 160, 161, 779, 780, 781, 782, 143, 144, 145, 146, 16, 17, 93, 94, 95, 15, 96, 97, 98, 99, 100, 101, 40, 41, 147, 148, 149, 150, 151, 152, 153, 154, 106, 107, 108, 109, 110, 111, 112, 113, 155, 156, 158, 159, 162, 163, 164, 389, 795, 796, 797, 798, 799, 800, 801, 802, 803, 804, 823, 824, 825] (by decide +kernel) (by decide +kernel)
set_option maxRecDepth 20000 in
theorem gL_law_X6_rounds : GoodIn wsL_law (wsV RL 139 RX6 yX6_rounds wsX6_rounds) := goodIn_app (goodIn_of _ (by decide +kernel)) ggL_law_X6_rounds
set_option maxRecDepth 20000 in
theorem ggL_law_X7_rounds : GoodIn wsL_law wsX7_rounds := goodIn_r _ [786, 748, 474, 749, 750, 5, 751, 125, 752, 127, 128, 129, 572, 573, 574, 753, 754, 755, 133, 134, 135, 756, 757, 758, 243, 244, 245] (by decide +kernel) (by decide +kernel)
set_option maxRecDepth 20000 in
theorem gL_law_X7_rounds : GoodIn wsL_law (wsV RL 142 RX7 yX7_rounds wsX7_rounds) := goodIn_app (goodIn_of _ (by decide +kernel)) ggL_law_X7_rounds
set_option maxRecDepth 20000 in
theorem ggL_law_X6_count : GoodIn wsL_law wsX6_count := goodIn_r _ [790, 25, 33, 795, 796, 797, 798, 799, 800, 801, 802, 803, 804, 828, 829, 835, 836, 837, 838, 839, 840] (by decide +kernel) (by decide +kernel)
set_option maxRecDepth 20000 in
theorem gL_law_X6_count : GoodIn wsL_law (wsV RL 143 RX6 yX6_count wsX6_count) := goodIn_app (goodIn_of _ (by decide +kernel)) ggL_law_X6_count
set_option maxRecDepth 20000 in
theorem ggL_law_X7_count : GoodIn wsL_law wsX7_count := goodIn_r _ [794, 322, 429, 71, 805, 806, 807, 808, 809, 810, 811, 812, 813, 814, 815, 816, 817, 818, 819, 820, 821, 822] (by decide +kernel) (by decide +kernel)
set_option maxRecDepth 20000 in
theorem gL_law_X7_count : GoodIn wsL_law (wsV RL 146 RX7 yX7_count wsX7_count) := goodIn_app (goodIn_of _ (by decide +kernel)) ggL_law_X7_count
