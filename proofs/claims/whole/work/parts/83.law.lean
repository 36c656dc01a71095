set_option maxRecDepth 20000 in
theorem ggL_law_X6_from : GoodIn wsL_law wsX6_from := goodIn_r _ [478, 479, 455, 33, 480, 481, 482, 32, 483, 63, 460, 461, 406, 62, 407, 408, 409, 410, 392, 411, 412, 413, 414, 58, 59, 415, 114, 115, 116, 465, 466, 467, 416, 417, 418, 419, 420, 421, 422, 794, 795, 796, 797, 798, 799, 800, 801, 802, 803, 833, 834, 835, 836, 837, 838] (by decide +kernel) (by decide +kernel)
set_option maxRecDepth 20000 in
theorem gL_law_X6_from : GoodIn wsL_law (wsV RL 82 RX6 yX6_from wsX6_from) := goodIn_app (goodIn_of _ (by decide +kernel)) ggL_law_X6_from
set_option maxRecDepth 20000 in
theorem ggL_law_X7_from : GoodIn wsL_law wsX7_from := goodIn_r _ [487, 488, 473, 70, 474, 126, 127, 5, 128, 442, 443, 444, 445, 428, 446, 447, 448, 449, 74, 71, 72, 73, 241, 242, 243, 124, 804, 805, 806, 807, 808, 809, 810, 811, 812, 813, 814, 815, 816, 817, 818, 819, 820, 821] (by decide +kernel) (by decide +kernel)
set_option maxRecDepth 20000 in
theorem gL_law_X7_from : GoodIn wsL_law (wsV RL 85 RX7 yX7_from wsX7_from) := goodIn_app (goodIn_of _ (by decide +kernel)) ggL_law_X7_from
set_option maxRecDepth 20000 in
theorem ggL_law_X6_needless : GoodIn wsL_law wsX6_needless := goodIn_r _ [492, 33, 493, 494, 495, 32, 496, 62, 407, 408, 409, 410, 392, 411, 412, 413, 414, 406, 58, 59, 415, 114, 115, 116, 794, 795, 796, 797, 798, 799, 800, 801, 802, 803, 833, 834, 835, 836, 837, 838] (by decide +kernel) (by decide +kernel)
set_option maxRecDepth 20000 in
theorem gL_law_X6_needless : GoodIn wsL_law (wsV RL 86 RX6 yX6_needless wsX6_needless) := goodIn_app (goodIn_of _ (by decide +kernel)) ggL_law_X6_needless
set_option maxRecDepth 20000 in
theorem ggL_law_X7_needless : GoodIn wsL_law wsX7_needless := goodIn_r _ [500, 428, 82, 126, 127, 5, 128, 501, 502, 503, 504, 70, 442, 443, 444, 445, 446, 447, 448, 449, 74, 71, 72, 73, 241, 242, 243, 124, 804, 805, 806, 807, 808, 809, 810, 811, 812, 813, 814, 815, 816, 817, 818, 819, 820, 821] (by decide +kernel) (by decide +kernel)
set_option maxRecDepth 20000 in
theorem gL_law_X7_needless : GoodIn wsL_law (wsV RL 90 RX7 yX7_needless wsX7_needless) := goodIn_app (goodIn_of _ (by decide +kernel)) ggL_law_X7_needless
set_option maxRecDepth 20000 in
theorem ggL_law_X6_lone : GoodIn wsL_law wsX6_lone := goodIn_r _ [508, 33, 509, 510, 511, 32, 512, 63, 392, 407, 408, 409, 410, 513, 514, 515, 516, 517, 518, 519, 520, 521, 522, 523, 524, 525, 526, 527, 59, 528, 155, 115, 156, 157, 158, 159, 411, 412, 413, 414, 406, 58, 415, 114, 116, 794, 795, 796, 797, 798, 799, 800, 801, 802, 803, 833, 834, 835, 836, 837, 838] (by decide +kernel) (by decide +kernel)
set_option maxRecDepth 20000 in
theorem gL_law_X6_lone : GoodIn wsL_law (wsV RL 91 RX6 yX6_lone wsX6_lone) := goodIn_app (goodIn_of _ (by decide +kernel)) ggL_law_X6_lone
set_option maxRecDepth 20000 in
theorem ggL_law_X7_lone : GoodIn wsL_law wsX7_lone := goodIn_r _ [532, 428, 82, 501, 502, 503, 5, 504, 70, 442, 443, 444, 445, 446, 447, 448, 449, 74, 71, 72, 73, 241, 242, 243, 124, 126, 127, 128, 533, 534, 535, 804, 805, 806, 807, 808, 809, 810, 811, 812, 813, 814, 815, 816, 817, 818, 819, 820, 821] (by decide +kernel) (by decide +kernel)
set_option maxRecDepth 20000 in
theorem gL_law_X7_lone : GoodIn wsL_law (wsV RL 94 RX7 yX7_lone wsX7_lone) := goodIn_app (goodIn_of _ (by decide +kernel)) ggL_law_X7_lone
set_option maxRecDepth 20000 in
theorem ggL_law_X6_looks : GoodIn wsL_law wsX6_looks := goodIn_r _ [539, 540, 541, 2, 542, 543, 544, 545, 115, 546, 547, 548, 549, 550, 551, 552, 553, 161, 162, 160, 554, 555, 556] (by decide +kernel) (by decide +kernel)
set_option maxRecDepth 20000 in
theorem gL_law_X6_looks : GoodIn wsL_law (wsV RL 95 RX6 yX6_looks wsX6_looks) := goodIn_app (goodIn_of _ (by decide +kernel)) ggL_law_X6_looks
set_option maxRecDepth 20000 in
theorem ggL_law_X7_looks : GoodIn wsL_law wsX7_looks := goodIn_r _ [560, 124, 561, 562, 5, 563, 286, 564, 126, 127, 128, 565, 566, 567, 241, 242, 243, 568, 569, 570, 571, 572, 573] (by decide +kernel) (by decide +kernel)
set_option maxRecDepth 20000 in
theorem gL_law_X7_looks : GoodIn wsL_law (wsV RL 98 RX7 yX7_looks wsX7_looks) := goodIn_app (goodIn_of _ (by decide +kernel)) ggL_law_X7_looks
set_option maxRecDepth 20000 in
theorem ggL_law_X6_lied : GoodIn wsL_law wsX6_lied := goodIn_r _ [577, 16, 540, 541, 2, 542, 543, 578, 579, 580, 554, 555, 115, 556, 544, 545, 546, 547, 548, 549, 550, 551, 552, 553, 161, 162, 92, 93, 94, 15, 95, 96, 97, 98, 99, 100, 40, 41, 581, 582, 583, 584, 585, 158, 159, 586, 587, 588, 589, 590, 591, 592, 593, 594, 595, 794, 795, 796, 797, 798, 799, 800, 801, 802, 803, 822, 823, 824] (by decide +kernel) (by decide +kernel)
set_option maxRecDepth 20000 in
theorem gL_law_X6_lied : GoodIn wsL_law (wsV RL 99 RX6 yX6_lied wsX6_lied) := goodIn_app (goodIn_of _ (by decide +kernel)) ggL_law_X6_lied
set_option maxRecDepth 20000 in
theorem ggL_law_X7_lied : GoodIn wsL_law wsX7_lied := goodIn_r _ [599, 124, 561, 562, 5, 563, 286, 564, 126, 127, 128, 568, 569, 570, 241, 242, 243, 565, 566, 567] (by decide +kernel) (by decide +kernel)
set_option maxRecDepth 20000 in
theorem gL_law_X7_lied : GoodIn wsL_law (wsV RL 102 RX7 yX7_lied wsX7_lied) := goodIn_app (goodIn_of _ (by decide +kernel)) ggL_law_X7_lied
set_option maxRecDepth 20000 in
theorem ggL_law_X6_falseOnes : GoodIn wsL_law wsX6_falseOnes := goodIn_r _ [603, 604, 605, 606, 2, 607, 16, 92, 93, 94, 15, 95, 96, 97, 98, 99, 100, 40, 41, 794, 795, 796, 797, 798, 799, 800, 801, 802, 803, 822, 823, 824] (by decide +kernel) (by decide +kernel)
set_option maxRecDepth 20000 in
theorem gL_law_X6_falseOnes : GoodIn wsL_law (wsV RL 103 RX6 yX6_falseOnes wsX6_falseOnes) := goodIn_app (goodIn_of _ (by decide +kernel)) ggL_law_X6_falseOnes
set_option maxRecDepth 20000 in
theorem ggL_law_X7_falseOnes : GoodIn wsL_law wsX7_falseOnes := goodIn_r _ [611, 286, 612, 126, 127, 5, 128, 613, 614, 615, 571, 572, 573, 129, 130, 131, 132, 133, 134, 568, 569, 570, 241, 242, 243, 124] (by decide +kernel) (by decide +kernel)
set_option maxRecDepth 20000 in
theorem gL_law_X7_falseOnes : GoodIn wsL_law (wsV RL 106 RX7 yX7_falseOnes wsX7_falseOnes) := goodIn_app (goodIn_of _ (by decide +kernel)) ggL_law_X7_falseOnes
set_option maxRecDepth 20000 in
theorem ggL_law_X6_fooled : GoodIn wsL_law wsX6_fooled := goodIn_r _ [619, 543, 620, 36, 621, 622, 623, 2, 624, 625, 544, 545, 115, 546, 547, 548, 549, 550, 551, 552, 553, 161, 162, 554, 555, 556, 626, 627, 628, 794, 795, 796, 797, 798, 799, 800, 801, 802, 803] (by decide +kernel) (by decide +kernel)
set_option maxRecDepth 20000 in
theorem gL_law_X6_fooled : GoodIn wsL_law (wsV RL 107 RX6 yX6_fooled wsX6_fooled) := goodIn_app (goodIn_of _ (by decide +kernel)) ggL_law_X6_fooled
set_option maxRecDepth 20000 in
theorem ggL_law_X7_fooled : GoodIn wsL_law wsX7_fooled := goodIn_r _ [632, 124, 633, 286, 564, 126, 127, 5, 128, 571, 572, 573, 565, 566, 567, 241, 242, 243] (by decide +kernel) (by decide +kernel)
set_option maxRecDepth 20000 in
theorem gL_law_X7_fooled : GoodIn wsL_law (wsV RL 110 RX7 yX7_fooled wsX7_fooled) := goodIn_app (goodIn_of _ (by decide +kernel)) ggL_law_X7_fooled
set_option maxRecDepth 20000 in
theorem ggL_law_X6_broken : GoodIn wsL_law wsX6_broken := goodIn_r _ [637, 638, 639, 2, 640, 88, 89, 90, 91, 641, 642, 643, 644, 645, 646, 585, 158, 115, 159, 160, 161, 162, 647, 648, 649, 650, 142, 143, 144, 145, 16, 17, 92, 93, 94, 15, 95, 96, 97, 98, 99, 100, 40, 41, 146, 147, 148, 149, 150, 151, 152, 153, 105, 106, 107, 108, 154, 155, 156, 157, 794, 795, 796, 797, 798, 799, 800, 801, 802, 803, 822, 823, 824] (by decide +kernel) (by decide +kernel)
set_option maxRecDepth 20000 in
theorem gL_law_X6_broken : GoodIn wsL_law (wsV RL 111 RX6 yX6_broken wsX6_broken) := goodIn_app (goodIn_of _ (by decide +kernel)) ggL_law_X6_broken
set_option maxRecDepth 20000 in
theorem ggL_law_X7_broken : GoodIn wsL_law wsX7_broken := goodIn_r _ [654, 655, 656, 5, 657, 124, 658, 126, 127, 128, 121, 122, 123, 125, 659, 660, 661, 132, 133, 134, 662, 663, 664, 170, 171, 172] (by decide +kernel) (by decide +kernel)
set_option maxRecDepth 20000 in
theorem gL_law_X7_broken : GoodIn wsL_law (wsV RL 114 RX7 yX7_broken wsX7_broken) := goodIn_app (goodIn_of _ (by decide +kernel)) ggL_law_X7_broken
set_option maxRecDepth 20000 in
theorem ggL_law_X6_figure : GoodIn wsL_law wsX6_figure := goodIn_r _ [668, 291, 638, 639, 2, 640, 88, 89, 90, 91, 160, 161, 115, 162] (by decide +kernel) (by decide +kernel)
set_option maxRecDepth 20000 in
theorem gL_law_X6_figure : GoodIn wsL_law (wsV RL 115 RX6 yX6_figure wsX6_figure) := goodIn_app (goodIn_of _ (by decide +kernel)) ggL_law_X6_figure
set_option maxRecDepth 20000 in
theorem ggL_law_X7_figure : GoodIn wsL_law wsX7_figure := goodIn_r _ [672, 300, 655, 656, 5, 657, 124, 658, 126, 127, 128, 121, 122, 123, 125, 241, 242, 243] (by decide +kernel) (by decide +kernel)
set_option maxRecDepth 20000 in
theorem gL_law_X7_figure : GoodIn wsL_law (wsV RL 118 RX7 yX7_figure wsX7_figure) := goodIn_app (goodIn_of _ (by decide +kernel)) ggL_law_X7_figure
set_option maxRecDepth 20000 in
theorem ggL_law_X6_soLong : GoodIn wsL_law wsX6_soLong := goodIn_r _ [676, 17, 638, 639, 2, 640, 92, 93, 94, 15, 95, 96, 97, 98, 99, 100, 40, 41, 677, 678, 679, 680, 644, 645, 646, 585, 158, 115, 159, 206, 207, 208, 209, 160, 161, 162, 794, 795, 796, 797, 798, 799, 800, 801, 802, 803, 822, 823, 824] (by decide +kernel) (by decide +kernel)
set_option maxRecDepth 20000 in
theorem gL_law_X6_soLong : GoodIn wsL_law (wsV RL 119 RX6 yX6_soLong wsX6_soLong) := goodIn_app (goodIn_of _ (by decide +kernel)) ggL_law_X6_soLong
set_option maxRecDepth 20000 in
theorem ggL_law_X7_soLong : GoodIn wsL_law wsX7_soLong := goodIn_r _ [684, 685, 124, 655, 656, 5, 657, 658, 126, 127, 128, 662, 663, 664, 132, 133, 134, 170, 171, 172] (by decide +kernel) (by decide +kernel)
set_option maxRecDepth 20000 in
theorem gL_law_X7_soLong : GoodIn wsL_law (wsV RL 122 RX7 yX7_soLong wsX7_soLong) := goodIn_app (goodIn_of _ (by decide +kernel)) ggL_law_X7_soLong
set_option maxRecDepth 20000 in
theorem ggL_law_X6_turning : GoodIn wsL_law wsX6_turning := goodIn_r _ [689, 638, 639, 2, 640, 88, 89, 90, 91, 554, 555, 115, 556, 647, 648, 649, 650, 644, 645, 646, 585, 158, 159, 142, 143, 144, 145, 16, 17, 92, 93, 94, 15, 95, 96, 97, 98, 99, 100, 40, 41, 146, 147, 148, 149, 150, 151, 152, 153, 105, 106, 107, 108, 154, 155, 156, 157, 160, 161, 162, 248, 249, 250, 218, 114, 116, 794, 795, 796, 797, 798, 799, 800, 801, 802, 803, 822, 823, 824] (by decide +kernel) (by decide +kernel)
set_option maxRecDepth 20000 in
theorem gL_law_X6_turning : GoodIn wsL_law (wsV RL 123 RX6 yX6_turning wsX6_turning) := goodIn_app (goodIn_of _ (by decide +kernel)) ggL_law_X6_turning
set_option maxRecDepth 20000 in
theorem ggL_law_X7_turning : GoodIn wsL_law wsX7_turning := goodIn_r _ [693, 655, 656, 5, 657, 124, 658, 126, 127, 128, 121, 122, 123, 125, 571, 572, 573, 662, 663, 664, 132, 133, 134, 170, 171, 172] (by decide +kernel) (by decide +kernel)
set_option maxRecDepth 20000 in
theorem gL_law_X7_turning : GoodIn wsL_law (wsV RL 126 RX7 yX7_turning wsX7_turning) := goodIn_app (goodIn_of _ (by decide +kernel)) ggL_law_X7_turning
set_option maxRecDepth 20000 in
theorem ggL_law_X7_tower : GoodIn wsL_law wsX7_tower := goodIn_r _ [719, 720, 83, 721, 722, 124, 121, 122, 5, 123, 125, 126, 127, 128, 723, 724, 725, 726, 727, 728, 804, 805, 806, 807, 808, 809, 810, 811, 812, 813, 814, 815, 816, 817, 818, 819, 820, 821] (by decide +kernel) (by decide +kernel)
set_option maxRecDepth 20000 in
theorem gL_law_X7_tower : GoodIn wsL_law (wsV RL 130 RX7 yX7_tower wsX7_tower) := goodIn_app (goodIn_of _ (by decide +kernel)) ggL_law_X7_tower
set_option maxRecDepth 20000 in
theorem ggL_law_X6_back : GoodIn wsL_law wsX6_back := goodIn_r _ [732, 16, 733, 734, 2, 735, 736, 737, 738, 739, 554, 555, 115, 556, 740, 741, 742, 585, 158, 159, 387, 155, 156, 157, 92, 93, 94, 15, 95, 96, 97, 98, 99, 100, 40, 41, 146, 147, 148, 149, 150, 151, 152, 153, 105, 106, 107, 108, 154, 160, 161, 162, 794, 795, 796, 797, 798, 799, 800, 801, 802, 803, 822, 823, 824] (by decide +kernel) (by decide +kernel)
set_option maxRecDepth 20000 in
theorem gL_law_X6_back : GoodIn wsL_law (wsV RL 131 RX6 yX6_back wsX6_back) := goodIn_app (goodIn_of _ (by decide +kernel)) ggL_law_X6_back
set_option maxRecDepth 20000 in
theorem ggL_law_X7_back : GoodIn wsL_law wsX7_back := goodIn_r _ [746, 747, 748, 749, 5, 750, 124, 751, 126, 127, 128, 571, 572, 573, 752, 753, 754, 132, 133, 134, 755, 756, 757] (by decide +kernel) (by decide +kernel)
set_option maxRecDepth 20000 in
theorem gL_law_X7_back : GoodIn wsL_law (wsV RL 134 RX7 yX7_back wsX7_back) := goodIn_app (goodIn_of _ (by decide +kernel)) ggL_law_X7_back
set_option maxRecDepth 20000 in
theorem ggL_law_X6_stay : GoodIn wsL_law wsX6_stay := goodIn_r _ [761, 21, 733, 734, 2, 735, 736, 737, 738, 739, 554, 555, 115, 556, 740, 741, 742, 585, 158, 159, 210, 211, 212, 20, 213, 46, 762, 763, 764, 765, 160, 161, 162, 214, 215, 216, 217, 766, 767, 768, 769, 218, 114, 116, 277, 224, 225, 226, 794, 795, 796, 797, 798, 799, 800, 801, 802, 803, 825] (by decide +kernel) (by decide +kernel)
set_option maxRecDepth 20000 in
theorem gL_law_X6_stay : GoodIn wsL_law (wsV RL 135 RX6 yX6_stay wsX6_stay) := goodIn_app (goodIn_of _ (by decide +kernel)) ggL_law_X6_stay
set_option maxRecDepth 20000 in
theorem ggL_law_X7_stay : GoodIn wsL_law wsX7_stay := goodIn_r _ [773, 747, 748, 749, 5, 750, 124, 751, 126, 127, 128, 571, 572, 573, 752, 753, 754, 132, 133, 134, 241, 242, 243] (by decide +kernel) (by decide +kernel)
set_option maxRecDepth 20000 in
theorem gL_law_X7_stay : GoodIn wsL_law (wsV RL 138 RX7 yX7_stay wsX7_stay) := goodIn_app (goodIn_of _ (by decide +kernel)) ggL_law_X7_stay
set_option maxRecDepth 20000 in
theorem ggL_law_X6_rounds : GoodIn wsL_law wsX6_rounds := goodIn_r _ [777, 733, 734, 2, 735, 736, 737, 738, 739, 554, 555, 115, 556, 740, 741, 742, 585, 158, 159, 778, 779, 780, 781, 218, 114, 116, 142, 143, 144, 145, 16, 17, 92, 93, 94, 15, 95, 96, 97, 98, 99, 100, 40, 41, 146, 147, 148, 149, 150, 151, 152, 153, 105, 106, 107, 108, 154, 155, 156, 157, 160, 161, 162, 387, 794, 795, 796, 797, 798, 799, 800, 801, 802, 803, 822, 823, 824] (by decide +kernel) (by decide +kernel)
set_option maxRecDepth 20000 in
theorem gL_law_X6_rounds : GoodIn wsL_law (wsV RL 139 RX6 yX6_rounds wsX6_rounds) := goodIn_app (goodIn_of _ (by decide +kernel)) ggL_law_X6_rounds
set_option maxRecDepth 20000 in
theorem ggL_law_X7_rounds : GoodIn wsL_law wsX7_rounds := goodIn_r _ [785, 747, 473, 748, 749, 5, 750, 124, 751, 126, 127, 128, 571, 572, 573, 752, 753, 754, 132, 133, 134, 755, 756, 757, 241, 242, 243] (by decide +kernel) (by decide +kernel)
set_option maxRecDepth 20000 in
theorem gL_law_X7_rounds : GoodIn wsL_law (wsV RL 142 RX7 yX7_rounds wsX7_rounds) := goodIn_app (goodIn_of _ (by decide +kernel)) ggL_law_X7_rounds
set_option maxRecDepth 20000 in
theorem ggL_law_X6_count : GoodIn wsL_law wsX6_count := goodIn_r _ [789, 25, 33, 794, 795, 796, 797, 798, 799, 800, 801, 802, 803, 826, 827, 833, 834, 835, 836, 837, 838] (by decide +kernel) (by decide +kernel)
set_option maxRecDepth 20000 in
theorem gL_law_X6_count : GoodIn wsL_law (wsV RL 143 RX6 yX6_count wsX6_count) := goodIn_app (goodIn_of _ (by decide +kernel)) ggL_law_X6_count
set_option maxRecDepth 20000 in
theorem ggL_law_X7_count : GoodIn wsL_law wsX7_count := goodIn_r _ [793, 320, 428, 70, 804, 805, 806, 807, 808, 809, 810, 811, 812, 813, 814, 815, 816, 817, 818, 819, 820, 821] (by decide +kernel) (by decide +kernel)
set_option maxRecDepth 20000 in
theorem gL_law_X7_count : GoodIn wsL_law (wsV RL 146 RX7 yX7_count wsX7_count) := goodIn_app (goodIn_of _ (by decide +kernel)) ggL_law_X7_count
