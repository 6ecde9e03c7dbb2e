set_option maxRecDepth 20000 in
theorem ggL_law__X6_init : GoodIn wsL_law_ wsX6_init := goodIn_r _ [9, 10, 11, 12, 13, 14, 15, 16, 17, 18, 19, 20, 21, 22, 23, 24, 25, 26, 27, 28, 29, 30, 31, 32, 33, 34, 35, 36, 37, 38, 39, 40, 41, 42, 43, 44, 45, 46, 47, 48, 49, 50, 51, 52, 53, 54, 55, 56, 57, 58, 59, 60, 61, 62, 63, 64, 65, 66, 67, 68, 69, 70, 71, 72, 73, 74, 75, 76, 826, 827, 828, 829, 774, 775, 776, 777, 778, 779, 780, 781, 782, 783, 784, 785, 786, 787, 788, 789, 830, 831, 832, 833, 834, 835, 836, 837, 838, 839, 840, 841, 842, 843, 844, 845, 846, 847, 848, 849, 850, 851, 852, 853, 854] (by decide +kernel) (by decide +kernel)
set_option maxRecDepth 20000 in
theorem gL_law__X6_init : GoodIn wsL_law_ (wsX6_init) := ggL_law__X6_init
set_option maxRecDepth 20000 in
theorem ggL_law__X7_init : GoodIn wsL_law_ wsX7_init := goodIn_r _ [79, 80, 11, 12, 81, 82, 19, 83, 59, 84, 85, 86, 87, 88, 89, 90, 91, 92, 93, 94, 95, 96, 97, 98, 99, 100, 101, 102, 103, 104, 105, 106, 790, 791, 792, 793, 794, 795, 796, 797, 798, 799, 800, 801, 802, 803, 804, 805, 806, 807, 808, 809, 810, 811, 812, 813, 814, 815, 816, 817, 818, 819, 820, 821, 822, 823, 824, 825] (by decide +kernel) (by decide +kernel)
set_option maxRecDepth 20000 in
theorem gL_law__X7_init : GoodIn wsL_law_ (wsX7_init) := ggL_law__X7_init
set_option maxRecDepth 20000 in
theorem ggL_law__X6_feed : GoodIn wsL_law_ wsX6_feed := goodIn_r _ [110, 18, 111, 112, 113, 114, 46, 115, 116, 52, 774, 775, 776, 777, 778, 779, 780, 781, 782, 783, 784, 785, 786, 787, 788, 789, 853, 854] (by decide +kernel) (by decide +kernel)
set_option maxRecDepth 20000 in
theorem gL_law__X6_feed : GoodIn wsL_law_ (wsV RL 93 RX6 yX6_feed wsX6_feed) := goodIn_app (goodIn_of _ (by decide +kernel)) ggL_law__X6_feed
set_option maxRecDepth 20000 in
theorem ggL_law__X7_feed : GoodIn wsL_law_ wsX7_feed := goodIn_r _ [120, 121, 122, 101, 99, 790, 791, 792, 793, 794, 795, 796, 797, 798, 799, 800, 801, 802, 803, 804, 805, 806, 807, 808, 809, 810, 811, 812, 813, 814, 815, 816, 817, 818, 819, 820, 821, 822, 823, 824, 825] (by decide +kernel) (by decide +kernel)
set_option maxRecDepth 20000 in
theorem gL_law__X7_feed : GoodIn wsL_law_ (wsV RL 97 RX7 yX7_feed wsX7_feed) := goodIn_app (goodIn_of _ (by decide +kernel)) ggL_law__X7_feed
set_option maxRecDepth 20000 in
theorem ggL_law__X6_end : GoodIn wsL_law_ wsX6_end := goodIn_r _ [126, 18, 111, 774, 775, 776, 777, 778, 779, 780, 781, 782, 783, 784, 785, 786, 787, 788, 789, 853, 854] (by decide +kernel) (by decide +kernel)
set_option maxRecDepth 20000 in
theorem gL_law__X6_end : GoodIn wsL_law_ (wsV RL 98 RX6 yX6_end wsX6_end) := goodIn_app (goodIn_of _ (by decide +kernel)) ggL_law__X6_end
set_option maxRecDepth 20000 in
theorem ggL_law__X7_end : GoodIn wsL_law_ wsX7_end := goodIn_r _ [130, 121, 122, 790, 791, 792, 793, 794, 795, 796, 797, 798, 799, 800, 801, 802, 803, 804, 805, 806, 807, 808, 809, 810, 811, 812, 813, 814, 815, 816, 817, 818, 819, 820, 821, 822, 823, 824, 825] (by decide +kernel) (by decide +kernel)
set_option maxRecDepth 20000 in
theorem gL_law__X7_end : GoodIn wsL_law_ (wsV RL 101 RX7 yX7_end wsX7_end) := goodIn_app (goodIn_of _ (by decide +kernel)) ggL_law__X7_end
set_option maxRecDepth 20000 in
theorem ggL_law__L_ground : GoodIn wsL_law_ wsL_ground := goodIn_ca (goodIn_r _ [134, 135, 136, 137, 138, 2, 139, 140, 141, 26, 27, 142, 143, 144, 774, 775, 776, 777, 778, 779, 780, 781, 782, 783, 784, 785, 786, 787, 788, 789] (by decide +kernel) (by decide +kernel)) (goodIn_sub (fun _ h => List.mem_append_left _ (List.mem_append_left _ (List.mem_append_left _ (List.mem_append_left _ (List.mem_append_right _ h))))) (by decide +kernel))
set_option maxRecDepth 20000 in
theorem gL_law__L_ground : GoodIn wsL_law_ (va_wsS RL 102 yL_ground wsL_ground) := goodIn_app (goodIn_of _ (by decide +kernel)) ggL_law__L_ground
set_option maxRecDepth 20000 in
theorem ggL_law__X7_ground : GoodIn wsL_law_ wsX7_ground := goodIn_r _ [148, 121, 81, 82, 149, 150, 5, 151, 152, 153, 154, 155, 790, 791, 792, 793, 794, 795, 796, 797, 798, 799, 800, 801, 802, 803, 804, 805, 806, 807, 808, 809, 810, 811, 812, 813, 814, 815, 816, 817, 818, 819, 820, 821, 822, 823, 824, 825] (by decide +kernel) (by decide +kernel)
set_option maxRecDepth 20000 in
theorem gL_law__X7_ground : GoodIn wsL_law_ (wsV RL 107 RX7 yX7_ground wsX7_ground) := goodIn_app (goodIn_of _ (by decide +kernel)) ggL_law__X7_ground
set_option maxRecDepth 20000 in
theorem ggL_law__X7_thrown : GoodIn wsL_law_ wsX7_thrown := goodIn_r _ [159, 121, 790, 791, 792, 793, 794, 795, 796, 797, 798, 799, 800, 801, 802, 803, 804, 805, 806, 807, 808, 809, 810, 811, 812, 813, 814, 815, 816, 817, 818, 819, 820, 821, 822, 823, 824, 825] (by decide +kernel) (by decide +kernel)
set_option maxRecDepth 20000 in
theorem gL_law__X7_thrown : GoodIn wsL_law_ (wsV RL 108 RX7 yX7_thrown wsX7_thrown) := goodIn_app (goodIn_of _ (by decide +kernel)) ggL_law__X7_thrown
set_option maxRecDepth 20000 in
theorem ggL_law__L_channel : GoodIn wsL_law_ wsL_channel := goodIn_ca (goodIn_r _ [162, 163, 164, 165, 166, 2, 167, 168, 169, 170, 774, 775, 776, 777, 778, 779, 780, 781, 782, 783, 784, 785, 786, 787, 788, 789] (by decide +kernel) (by decide +kernel)) (goodIn_sub (fun _ h => List.mem_append_left _ (List.mem_append_left _ (List.mem_append_left _ (List.mem_append_right _ h)))) (by decide +kernel))
set_option maxRecDepth 20000 in
theorem gL_law__L_channel : GoodIn wsL_law_ (va_wsS RL 111 yL_channel wsL_channel) := goodIn_app (goodIn_of _ (by decide +kernel)) ggL_law__L_channel
