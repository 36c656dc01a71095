set_option maxRecDepth 20000 in
theorem ggL_law_X6_from : GoodIn wsL_law wsX6_from := goodIn_r _ [477, 478, 454, 33, 479, 480, 481, 32, 482, 63, 459, 460, 406, 62, 407, 408, 409, 410, 392, 411, 412, 413, 414, 58, 59, 464, 465, 466, 415, 416, 417, 418, 419, 420, 421, 793, 794, 795, 796, 797, 798, 799, 800, 801, 802, 832, 833, 834, 835, 836, 837] (by decide +kernel) (by decide +kernel)
set_option maxRecDepth 20000 in
theorem gL_law_X6_from : GoodIn wsL_law (wsV RL 82 RX6 yX6_from wsX6_from) := goodIn_app (goodIn_of _ (by decide +kernel)) ggL_law_X6_from
set_option maxRecDepth 20000 in
theorem ggL_law_X7_from : GoodIn wsL_law wsX7_from := goodIn_r _ [486, 487, 472, 70, 473, 126, 127, 5, 128, 441, 442, 443, 444, 427, 445, 446, 447, 448, 74, 71, 72, 73, 241, 242, 243, 124, 803, 804, 805, 806, 807, 808, 809, 810, 811, 812, 813, 814, 815, 816, 817, 818, 819, 820] (by decide +kernel) (by decide +kernel)
set_option maxRecDepth 20000 in
theorem gL_law_X7_from : GoodIn wsL_law (wsV RL 85 RX7 yX7_from wsX7_from) := goodIn_app (goodIn_of _ (by decide +kernel)) ggL_law_X7_from
set_option maxRecDepth 20000 in
theorem ggL_law_X6_needless : GoodIn wsL_law wsX6_needless := goodIn_r _ [491, 33, 492, 493, 494, 32, 495, 62, 407, 408, 409, 410, 392, 411, 412, 413, 414, 406, 58, 59, 793, 794, 795, 796, 797, 798, 799, 800, 801, 802, 832, 833, 834, 835, 836, 837] (by decide +kernel) (by decide +kernel)
set_option maxRecDepth 20000 in
theorem gL_law_X6_needless : GoodIn wsL_law (wsV RL 86 RX6 yX6_needless wsX6_needless) := goodIn_app (goodIn_of _ (by decide +kernel)) ggL_law_X6_needless
set_option maxRecDepth 20000 in
theorem ggL_law_X7_needless : GoodIn wsL_law wsX7_needless := goodIn_r _ [499, 427, 82, 126, 127, 5, 128, 500, 501, 502, 503, 70, 441, 442, 443, 444, 445, 446, 447, 448, 74, 71, 72, 73, 241, 242, 243, 124, 803, 804, 805, 806, 807, 808, 809, 810, 811, 812, 813, 814, 815, 816, 817, 818, 819, 820] (by decide +kernel) (by decide +kernel)
set_option maxRecDepth 20000 in
theorem gL_law_X7_needless : GoodIn wsL_law (wsV RL 90 RX7 yX7_needless wsX7_needless) := goodIn_app (goodIn_of _ (by decide +kernel)) ggL_law_X7_needless
set_option maxRecDepth 20000 in
theorem ggL_law_X6_lone : GoodIn wsL_law wsX6_lone := goodIn_r _ [507, 33, 508, 509, 510, 32, 511, 63, 392, 407, 408, 409, 410, 512, 513, 514, 515, 516, 517, 518, 519, 520, 521, 522, 523, 524, 525, 526, 59, 527, 155, 156, 157, 158, 159, 160, 411, 412, 413, 414, 406, 58, 793, 794, 795, 796, 797, 798, 799, 800, 801, 802, 832, 833, 834, 835, 836, 837] (by decide +kernel) (by decide +kernel)
set_option maxRecDepth 20000 in
theorem gL_law_X6_lone : GoodIn wsL_law (wsV RL 91 RX6 yX6_lone wsX6_lone) := goodIn_app (goodIn_of _ (by decide +kernel)) ggL_law_X6_lone
set_option maxRecDepth 20000 in
theorem ggL_law_X7_lone : GoodIn wsL_law wsX7_lone := goodIn_r _ [531, 427, 82, 500, 501, 502, 5, 503, 70, 441, 442, 443, 444, 445, 446, 447, 448, 74, 71, 72, 73, 241, 242, 243, 124, 126, 127, 128, 532, 533, 534, 803, 804, 805, 806, 807, 808, 809, 810, 811, 812, 813, 814, 815, 816, 817, 818, 819, 820] (by decide +kernel) (by decide +kernel)
set_option maxRecDepth 20000 in
theorem gL_law_X7_lone : GoodIn wsL_law (wsV RL 94 RX7 yX7_lone wsX7_lone) := goodIn_app (goodIn_of _ (by decide +kernel)) ggL_law_X7_lone
set_option maxRecDepth 20000 in
theorem ggL_law_X6_looks : GoodIn wsL_law wsX6_looks := goodIn_r _ [538, 539, 540, 2, 541, 542, 543, 544, 156, 545, 546, 547, 548, 549, 550, 551, 552, 162, 163, 161, 553, 554, 555] (by decide +kernel) (by decide +kernel)
set_option maxRecDepth 20000 in
theorem gL_law_X6_looks : GoodIn wsL_law (wsV RL 95 RX6 yX6_looks wsX6_looks) := goodIn_app (goodIn_of _ (by decide +kernel)) ggL_law_X6_looks
set_option maxRecDepth 20000 in
theorem ggL_law_X7_looks : GoodIn wsL_law wsX7_looks := goodIn_r _ [559, 124, 560, 561, 5, 562, 286, 563, 126, 127, 128, 564, 565, 566, 241, 242, 243, 567, 568, 569, 570, 571, 572] (by decide +kernel) (by decide +kernel)
set_option maxRecDepth 20000 in
theorem gL_law_X7_looks : GoodIn wsL_law (wsV RL 98 RX7 yX7_looks wsX7_looks) := goodIn_app (goodIn_of _ (by decide +kernel)) ggL_law_X7_looks
set_option maxRecDepth 20000 in
theorem ggL_law_X6_lied : GoodIn wsL_law wsX6_lied := goodIn_r _ [576, 16, 539, 540, 2, 541, 542, 577, 578, 579, 553, 554, 156, 555, 543, 544, 545, 546, 547, 548, 549, 550, 551, 552, 162, 163, 92, 93, 94, 15, 95, 96, 97, 98, 99, 100, 40, 41, 580, 581, 582, 583, 584, 159, 160, 585, 586, 587, 588, 589, 590, 591, 592, 593, 594, 793, 794, 795, 796, 797, 798, 799, 800, 801, 802, 821, 822, 823] (by decide +kernel) (by decide +kernel)
set_option maxRecDepth 20000 in
theorem gL_law_X6_lied : GoodIn wsL_law (wsV RL 99 RX6 yX6_lied wsX6_lied) := goodIn_app (goodIn_of _ (by decide +kernel)) ggL_law_X6_lied
set_option maxRecDepth 20000 in
theorem ggL_law_X7_lied : GoodIn wsL_law wsX7_lied := goodIn_r _ [598, 124, 560, 561, 5, 562, 286, 563, 126, 127, 128, 567, 568, 569, 241, 242, 243, 564, 565, 566] (by decide +kernel) (by decide +kernel)
set_option maxRecDepth 20000 in
theorem gL_law_X7_lied : GoodIn wsL_law (wsV RL 102 RX7 yX7_lied wsX7_lied) := goodIn_app (goodIn_of _ (by decide +kernel)) ggL_law_X7_lied
set_option maxRecDepth 20000 in
theorem ggL_law_X6_falseOnes : GoodIn wsL_law wsX6_falseOnes := goodIn_r _ [602, 603, 604, 605, 2, 606, 16, 92, 93, 94, 15, 95, 96, 97, 98, 99, 100, 40, 41, 793, 794, 795, 796, 797, 798, 799, 800, 801, 802, 821, 822, 823] (by decide +kernel) (by decide +kernel)
set_option maxRecDepth 20000 in
theorem gL_law_X6_falseOnes : GoodIn wsL_law (wsV RL 103 RX6 yX6_falseOnes wsX6_falseOnes) := goodIn_app (goodIn_of _ (by decide +kernel)) ggL_law_X6_falseOnes
set_option maxRecDepth 20000 in
theorem ggL_law_X7_falseOnes : GoodIn wsL_law wsX7_falseOnes := goodIn_r _ [610, 286, 611, 126, 127, 5, 128, 612, 613, 614, 570, 571, 572, 129, 130, 131, 132, 133, 134, 567, 568, 569, 241, 242, 243, 124] (by decide +kernel) (by decide +kernel)
set_option maxRecDepth 20000 in
theorem gL_law_X7_falseOnes : GoodIn wsL_law (wsV RL 106 RX7 yX7_falseOnes wsX7_falseOnes) := goodIn_app (goodIn_of _ (by decide +kernel)) ggL_law_X7_falseOnes
set_option maxRecDepth 20000 in
theorem ggL_law_X6_fooled : GoodIn wsL_law wsX6_fooled := goodIn_r _ [618, 542, 619, 36, 620, 621, 622, 2, 623, 624, 543, 544, 156, 545, 546, 547, 548, 549, 550, 551, 552, 162, 163, 553, 554, 555, 625, 626, 627, 793, 794, 795, 796, 797, 798, 799, 800, 801, 802] (by decide +kernel) (by decide +kernel)
set_option maxRecDepth 20000 in
theorem gL_law_X6_fooled : GoodIn wsL_law (wsV RL 107 RX6 yX6_fooled wsX6_fooled) := goodIn_app (goodIn_of _ (by decide +kernel)) ggL_law_X6_fooled
set_option maxRecDepth 20000 in
theorem ggL_law_X7_fooled : GoodIn wsL_law wsX7_fooled := goodIn_r _ [631, 124, 632, 286, 563, 126, 127, 5, 128, 570, 571, 572, 564, 565, 566, 241, 242, 243] (by decide +kernel) (by decide +kernel)
set_option maxRecDepth 20000 in
theorem gL_law_X7_fooled : GoodIn wsL_law (wsV RL 110 RX7 yX7_fooled wsX7_fooled) := goodIn_app (goodIn_of _ (by decide +kernel)) ggL_law_X7_fooled
set_option maxRecDepth 20000 in
theorem ggL_law_X6_broken : GoodIn wsL_law wsX6_broken := goodIn_r _ [636, 637, 638, 2, 639, 88, 89, 90, 91, 640, 641, 642, 643, 644, 645, 584, 159, 156, 160, 161, 162, 163, 646, 647, 648, 649, 142, 143, 144, 145, 16, 17, 92, 93, 94, 15, 95, 96, 97, 98, 99, 100, 40, 41, 146, 147, 148, 149, 150, 151, 152, 153, 105, 106, 107, 108, 109, 110, 111, 112, 154, 155, 157, 158, 793, 794, 795, 796, 797, 798, 799, 800, 801, 802, 821, 822, 823] (by decide +kernel) (by decide +kernel)
set_option maxRecDepth 20000 in
theorem gL_law_X6_broken : GoodIn wsL_law (wsV RL 111 RX6 yX6_broken wsX6_broken) := goodIn_app (goodIn_of _ (by decide +kernel)) ggL_law_X6_broken
set_option maxRecDepth 20000 in
theorem ggL_law_X7_broken : GoodIn wsL_law wsX7_broken := goodIn_r _ [653, 654, 655, 5, 656, 124, 657, 126, 127, 128, 121, 122, 123, 125, 658, 659, 660, 132, 133, 134, 661, 662, 663, 171, 172, 173] (by decide +kernel) (by decide +kernel)
set_option maxRecDepth 20000 in
theorem gL_law_X7_broken : GoodIn wsL_law (wsV RL 114 RX7 yX7_broken wsX7_broken) := goodIn_app (goodIn_of _ (by decide +kernel)) ggL_law_X7_broken
set_option maxRecDepth 20000 in
theorem ggL_law_X6_figure : GoodIn wsL_law wsX6_figure := goodIn_r _ [667, 291, 637, 638, 2, 639, 88, 89, 90, 91, 161, 162, 156, 163] (by decide +kernel) (by decide +kernel)
set_option maxRecDepth 20000 in
theorem gL_law_X6_figure : GoodIn wsL_law (wsV RL 115 RX6 yX6_figure wsX6_figure) := goodIn_app (goodIn_of _ (by decide +kernel)) ggL_law_X6_figure
set_option maxRecDepth 20000 in
theorem ggL_law_X7_figure : GoodIn wsL_law wsX7_figure := goodIn_r _ [671, 300, 654, 655, 5, 656, 124, 657, 126, 127, 128, 121, 122, 123, 125, 241, 242, 243] (by decide +kernel) (by decide +kernel)
set_option maxRecDepth 20000 in
theorem gL_law_X7_figure : GoodIn wsL_law (wsV RL 118 RX7 yX7_figure wsX7_figure) := goodIn_app (goodIn_of _ (by decide +kernel)) ggL_law_X7_figure
set_option maxRecDepth 20000 in
theorem ggL_law_X6_soLong : GoodIn wsL_law wsX6_soLong := goodIn_r _ [675, 17, 637, 638, 2, 639, 92, 93, 94, 15, 95, 96, 97, 98, 99, 100, 40, 41, 676, 677, 678, 679, 643, 644, 645, 584, 159, 156, 160, 207, 208, 209, 210, 161, 162, 163, 793, 794, 795, 796, 797, 798, 799, 800, 801, 802, 821, 822, 823] (by decide +kernel) (by decide +kernel)
set_option maxRecDepth 20000 in
theorem gL_law_X6_soLong : GoodIn wsL_law (wsV RL 119 RX6 yX6_soLong wsX6_soLong) := goodIn_app (goodIn_of _ (by decide +kernel)) ggL_law_X6_soLong
set_option maxRecDepth 20000 in
theorem ggL_law_X7_soLong : GoodIn wsL_law wsX7_soLong := goodIn_r _ [683, 684, 124, 654, 655, 5, 656, 657, 126, 127, 128, 661, 662, 663, 132, 133, 134, 171, 172, 173] (by decide +kernel) (by decide +kernel)
set_option maxRecDepth 20000 in
theorem gL_law_X7_soLong : GoodIn wsL_law (wsV RL 122 RX7 yX7_soLong wsX7_soLong) := goodIn_app (goodIn_of _ (by decide +kernel)) ggL_law_X7_soLong
set_option maxRecDepth 20000 in
theorem ggL_law_X6_turning : GoodIn wsL_law wsX6_turning := goodIn_r _ [688, 637, 638, 2, 639, 88, 89, 90, 91, 553, 554, 156, 555, 646, 647, 648, 649, 643, 644, 645, 584, 159, 160, 142, 143, 144, 145, 16, 17, 92, 93, 94, 15, 95, 96, 97, 98, 99, 100, 40, 41, 146, 147, 148, 149, 150, 151, 152, 153, 105, 106, 107, 108, 109, 110, 111, 112, 154, 155, 157, 158, 161, 162, 163, 248, 249, 250, 793, 794, 795, 796, 797, 798, 799, 800, 801, 802, 821, 822, 823] (by decide +kernel) (by decide +kernel)
set_option maxRecDepth 20000 in
theorem gL_law_X6_turning : GoodIn wsL_law (wsV RL 123 RX6 yX6_turning wsX6_turning) := goodIn_app (goodIn_of _ (by decide +kernel)) ggL_law_X6_turning
set_option maxRecDepth 20000 in
theorem ggL_law_X7_turning : GoodIn wsL_law wsX7_turning := goodIn_r _ [692, 654, 655, 5, 656, 124, 657, 126, 127, 128, 121, 122, 123, 125, 570, 571, 572, 661, 662, 663, 132, 133, 134, 171, 172, 173] (by decide +kernel) (by decide +kernel)
set_option maxRecDepth 20000 in
theorem gL_law_X7_turning : GoodIn wsL_law (wsV RL 126 RX7 yX7_turning wsX7_turning) := goodIn_app (goodIn_of _ (by decide +kernel)) ggL_law_X7_turning
set_option maxRecDepth 20000 in
theorem ggL_law_X7_tower : GoodIn wsL_law wsX7_tower := goodIn_r _ [718, 719, 83, 720, 721, 124, 121, 122, 5, 123, 125, 126, 127, 128, 722, 723, 724, 725, 726, 727, 803, 804, 805, 806, 807, 808, 809, 810, 811, 812, 813, 814, 815, 816, 817, 818, 819, 820] (by decide +kernel) (by decide +kernel)
set_option maxRecDepth 20000 in
theorem gL_law_X7_tower : GoodIn wsL_law (wsV RL 130 RX7 yX7_tower wsX7_tower) := goodIn_app (goodIn_of _ (by decide +kernel)) ggL_law_X7_tower
set_option maxRecDepth 20000 in
theorem ggL_law_X6_back : GoodIn wsL_law wsX6_back := goodIn_r _ [731, 16, 732, 733, 2, 734, 735, 736, 737, 738, 553, 554, 156, 555, 739, 740, 741, 584, 159, 160, 387, 155, 157, 158, 92, 93, 94, 15, 95, 96, 97, 98, 99, 100, 40, 41, 146, 147, 148, 149, 150, 151, 152, 153, 105, 106, 107, 108, 109, 110, 111, 112, 154, 161, 162, 163, 793, 794, 795, 796, 797, 798, 799, 800, 801, 802, 821, 822, 823] (by decide +kernel) (by decide +kernel)
set_option maxRecDepth 20000 in
theorem gL_law_X6_back : GoodIn wsL_law (wsV RL 131 RX6 yX6_back wsX6_back) := goodIn_app (goodIn_of _ (by decide +kernel)) ggL_law_X6_back
set_option maxRecDepth 20000 in
theorem ggL_law_X7_back : GoodIn wsL_law wsX7_back := goodIn_r _ [745, 746, 747, 748, 5, 749, 124, 750, 126, 127, 128, 570, 571, 572, 751, 752, 753, 132, 133, 134, 754, 755, 756] (by decide +kernel) (by decide +kernel)
set_option maxRecDepth 20000 in
theorem gL_law_X7_back : GoodIn wsL_law (wsV RL 134 RX7 yX7_back wsX7_back) := goodIn_app (goodIn_of _ (by decide +kernel)) ggL_law_X7_back
set_option maxRecDepth 20000 in
theorem ggL_law_X6_stay : GoodIn wsL_law wsX6_stay := goodIn_r _ [760, 21, 732, 733, 2, 734, 735, 736, 737, 738, 553, 554, 156, 555, 739, 740, 741, 584, 159, 160, 211, 212, 213, 20, 214, 46, 761, 762, 763, 764, 161, 162, 163, 215, 216, 217, 218, 765, 766, 767, 768, 277, 224, 225, 226, 793, 794, 795, 796, 797, 798, 799, 800, 801, 802, 824] (by decide +kernel) (by decide +kernel)
set_option maxRecDepth 20000 in
theorem gL_law_X6_stay : GoodIn wsL_law (wsV RL 135 RX6 yX6_stay wsX6_stay) := goodIn_app (goodIn_of _ (by decide +kernel)) ggL_law_X6_stay
set_option maxRecDepth 20000 in
theorem ggL_law_X7_stay : GoodIn wsL_law wsX7_stay := goodIn_r _ [772, 746, 747, 748, 5, 749, 124, 750, 126, 127, 128, 570, 571, 572, 751, 752, 753, 132, 133, 134, 241, 242, 243] (by decide +kernel) (by decide +kernel)
set_option maxRecDepth 20000 in
theorem gL_law_X7_stay : GoodIn wsL_law (wsV RL 138 RX7 yX7_stay wsX7_stay) := goodIn_app (goodIn_of _ (by decide +kernel)) ggL_law_X7_stay
set_option maxRecDepth 20000 in
theorem ggL_law_X6_rounds : GoodIn wsL_law wsX6_rounds := goodIn_r _ [776, 732, 733, 2, 734, 735, 736, 737, 738, 553, 554, 156, 555, 739, 740, 741, 584, 159, 160, 777, 778, 779, 780, 142, 143, 144, 145, 16, 17, 92, 93, 94, 15, 95, 96, 97, 98, 99, 100, 40, 41, 146, 147, 148, 149, 150, 151, 152, 153, 105, 106, 107, 108, 109, 110, 111, 112, 154, 155, 157, 158, 161, 162, 163, 387, 793, 794, 795, 796, 797, 798, 799, 800, 801, 802, 821, 822, 823] (by decide +kernel) (by decide +kernel)
set_option maxRecDepth 20000 in
theorem gL_law_X6_rounds : GoodIn wsL_law (wsV RL 139 RX6 yX6_rounds wsX6_rounds) := goodIn_app (goodIn_of _ (by decide +kernel)) ggL_law_X6_rounds
set_option maxRecDepth 20000 in
theorem ggL_law_X7_rounds : GoodIn wsL_law wsX7_rounds := goodIn_r _ [784, 746, 472, 747, 748, 5, 749, 124, 750, 126, 127, 128, 570, 571, 572, 751, 752, 753, 132, 133, 134, 754, 755, 756, 241, 242, 243] (by decide +kernel) (by decide +kernel)
set_option maxRecDepth 20000 in
theorem gL_law_X7_rounds : GoodIn wsL_law (wsV RL 142 RX7 yX7_rounds wsX7_rounds) := goodIn_app (goodIn_of _ (by decide +kernel)) ggL_law_X7_rounds
set_option maxRecDepth 20000 in
theorem ggL_law_X6_count : GoodIn wsL_law wsX6_count := goodIn_r _ [788, 25, 33, 793, 794, 795, 796, 797, 798, 799, 800, 801, 802, 825, 826, 832, 833, 834, 835, 836, 837] (by decide +kernel) (by decide +kernel)
set_option maxRecDepth 20000 in
theorem gL_law_X6_count : GoodIn wsL_law (wsV RL 143 RX6 yX6_count wsX6_count) := goodIn_app (goodIn_of _ (by decide +kernel)) ggL_law_X6_count
set_option maxRecDepth 20000 in
theorem ggL_law_X7_count : GoodIn wsL_law wsX7_count := goodIn_r _ [792, 320, 427, 70, 803, 804, 805, 806, 807, 808, 809, 810, 811, 812, 813, 814, 815, 816, 817, 818, 819, 820] (by decide +kernel) (by decide +kernel)
set_option maxRecDepth 20000 in
theorem gL_law_X7_count : GoodIn wsL_law (wsV RL 146 RX7 yX7_count wsX7_count) := goodIn_app (goodIn_of _ (by decide +kernel)) ggL_law_X7_count
