set_option maxRecDepth 20000 in
theorem ggL_law__X7_least : GoodIn wsL_law_ wsX7_least := goodIn_r _ [756, 121, 106, 737, 103, 757, 105, 104, 260, 246, 243, 247, 388, 362, 363, 790, 791, 792, 793, 794, 795, 796, 797, 798, 799, 800, 801, 802, 803, 804, 805, 806, 807, 808, 809, 810, 811, 812, 813, 814, 815, 816, 817, 818, 819, 820, 821, 822, 823, 824, 825] (by decide +kernel) (by decide +kernel)
set_option maxRecDepth 20000 in
theorem gL_law__X7_least : GoodIn wsL_law_ (wsV RL 183 RX7 yX7_least wsX7_least) := goodIn_app (goodIn_of _ (by decide +kernel)) ggL_law__X7_least
set_option maxRecDepth 20000 in
theorem ggL_law__X6_count : GoodIn wsL_law_ wsX6_count := goodIn_r _ [761, 170, 272, 270, 430, 268, 40, 727, 762, 763, 764, 2, 765, 29, 435, 436, 437, 31, 438, 291, 766, 767, 768, 769, 23, 198, 199, 200, 25, 201, 202, 349, 350, 351, 352, 353, 354, 355, 356, 207, 60, 357, 358, 359, 360, 26, 27, 235, 273, 236, 237, 361, 362, 243, 363, 245, 246, 247, 364, 365, 366, 367, 271, 238, 239, 240, 241, 242, 244, 368, 369, 370, 371, 58, 774, 775, 776, 777, 778, 779, 780, 781, 782, 783, 784, 785, 786, 787, 788, 789, 848, 849, 850, 851, 852, 838, 839, 840, 841, 842, 843, 844, 830, 831, 832, 833, 834, 835, 836, 837] (by decide +kernel) (by decide +kernel)
set_option maxRecDepth 20000 in
theorem gL_law__X6_count : GoodIn wsL_law_ (wsV RL 184 RX6 yX6_count wsX6_count) := goodIn_app (goodIn_of _ (by decide +kernel)) ggL_law__X6_count
set_option maxRecDepth 20000 in
theorem ggL_law__X7_count : GoodIn wsL_law_ wsX7_count := goodIn_r _ [773, 121, 175, 298, 297, 451, 296, 737, 84, 447, 448, 449, 5, 450, 92, 376, 377, 378, 379, 90, 380, 381, 382, 383, 83, 91, 384, 385, 386, 387, 81, 82, 88, 86, 89, 388, 362, 243, 363, 389, 390, 391, 392, 260, 246, 247, 85, 256, 257, 258, 259, 242, 244, 790, 791, 792, 793, 794, 795, 796, 797, 798, 799, 800, 801, 802, 803, 804, 805, 806, 807, 808, 809, 810, 811, 812, 813, 814, 815, 816, 817, 818, 819, 820, 821, 822, 823, 824, 825] (by decide +kernel) (by decide +kernel)
set_option maxRecDepth 20000 in
theorem gL_law__X7_count : GoodIn wsL_law_ (wsV RL 187 RX7 yX7_count wsX7_count) := goodIn_app (goodIn_of _ (by decide +kernel)) ggL_law__X7_count
