set_option maxRecDepth 20000 in
theorem ggL_law__X7_law : GoodIn wsL_law_ wsX7_law := goodIn_r _ [644, 121, 122, 645, 646, 97, 96, 647, 100, 648, 649, 650, 5, 651, 652, 653, 654, 655, 656, 657, 658, 659, 660, 661, 662, 663, 99, 664, 665, 666, 667, 668, 585, 586, 587, 588, 589, 590, 591, 592, 593, 594, 595, 669, 597, 598, 599, 600, 601, 602, 603, 604, 605, 606, 607, 608, 609, 610, 611, 612, 613, 614, 615, 616, 617, 618, 619, 620, 621, 622, 623, 624, 625, 626, 627, 628, 629, 630, 631, 632, 670, 671, 672, 673, 152, 153, 154, 155, 790, 791, 792, 793, 794, 795, 796, 797, 798, 799, 800, 801, 802, 803, 804, 805, 806, 807, 808, 809, 810, 811, 812, 813, 814, 815, 816, 817, 818, 819, 820, 821, 822, 823, 824, 825] (by decide +kernel) (by decide +kernel)
set_option maxRecDepth 20000 in
theorem gL_law__X7_law : GoodIn wsL_law_ (wsV RL 166 RX7 yX7_law wsX7_law) := goodIn_app (goodIn_of _ (by decide +kernel)) ggL_law__X7_law
set_option maxRecDepth 20000 in
theorem ggL_law__X6_fault : GoodIn wsL_law_ wsX6_fault := goodIn_r _ [677, 21, 774, 775, 776, 777, 778, 779, 780, 781, 782, 783, 784, 785, 786, 787, 788, 789] (by decide +kernel) (by decide +kernel)
set_option maxRecDepth 20000 in
theorem gL_law__X6_fault : GoodIn wsL_law_ (wsV RL 167 RX6 yX6_fault wsX6_fault) := goodIn_app (goodIn_of _ (by decide +kernel)) ggL_law__X6_fault
set_option maxRecDepth 20000 in
theorem ggL_law__X7_fault : GoodIn wsL_law_ wsX7_fault := goodIn_r _ [681, 121, 100, 790, 791, 792, 793, 794, 795, 796, 797, 798, 799, 800, 801, 802, 803, 804, 805, 806, 807, 808, 809, 810, 811, 812, 813, 814, 815, 816, 817, 818, 819, 820, 821, 822, 823, 824, 825] (by decide +kernel) (by decide +kernel)
set_option maxRecDepth 20000 in
theorem gL_law__X7_fault : GoodIn wsL_law_ (wsV RL 170 RX7 yX7_fault wsX7_fault) := goodIn_app (goodIn_of _ (by decide +kernel)) ggL_law__X7_fault
set_option maxRecDepth 20000 in
theorem ggL_law__L_says : GoodIn wsL_law_ wsL_says := goodIn_ca (goodIn_r _ [684, 533, 685, 686, 687, 2, 688, 538, 539, 20, 774, 775, 776, 777, 778, 779, 780, 781, 782, 783, 784, 785, 786, 787, 788, 789] (by decide +kernel) (by decide +kernel)) (goodIn_sub (fun _ h => List.mem_append_right _ h) (by decide +kernel))
set_option maxRecDepth 20000 in
theorem gL_law__L_says : GoodIn wsL_law_ (va_wsS RL 171 yL_says wsL_says) := goodIn_app (goodIn_of _ (by decide +kernel)) ggL_law__L_says
set_option maxRecDepth 20000 in
theorem ggL_law__X7_says : GoodIn wsL_law_ wsX7_says := goodIn_r _ [692, 121, 96, 149, 150, 5, 151, 152, 153, 154, 155, 790, 791, 792, 793, 794, 795, 796, 797, 798, 799, 800, 801, 802, 803, 804, 805, 806, 807, 808, 809, 810, 811, 812, 813, 814, 815, 816, 817, 818, 819, 820, 821, 822, 823, 824, 825] (by decide +kernel) (by decide +kernel)
set_option maxRecDepth 20000 in
theorem gL_law__X7_says : GoodIn wsL_law_ (wsV RL 173 RX7 yX7_says wsX7_says) := goodIn_app (goodIn_of _ (by decide +kernel)) ggL_law__X7_says
set_option maxRecDepth 20000 in
theorem ggL_law__L_pays : GoodIn wsL_law_ wsL_pays := goodIn_ca (goodIn_ca (goodIn_ca (goodIn_r _ [695, 179, 180, 135, 696, 697, 698, 2, 699, 140, 141, 700, 20, 345, 346, 347, 348, 190, 191, 192, 193, 194, 195, 196, 197, 170, 23, 198, 199, 200, 25, 201, 202, 274, 275, 276, 142, 143, 144, 701, 702, 703, 704, 36, 268, 29, 424, 425, 423, 422, 705, 474, 475, 706, 707, 708, 709, 774, 775, 776, 777, 778, 779, 780, 781, 782, 783, 784, 785, 786, 787, 788, 789, 830, 831, 832, 833, 834, 835, 836, 837, 838, 839, 840, 841, 842, 843, 844] (by decide +kernel) (by decide +kernel)) (goodIn_sub (fun _ h => List.mem_append_left _ (List.mem_append_left _ (List.mem_append_left _ (List.mem_append_left _ (List.mem_append_right _ h))))) (by decide +kernel))) (goodIn_sub (fun _ h => List.mem_append_left _ (List.mem_append_left _ (List.mem_append_right _ h))) (by decide +kernel))) (goodIn_sub (fun _ h => List.mem_append_left _ (List.mem_append_right _ h)) (by decide +kernel))
set_option maxRecDepth 20000 in
theorem gL_law__L_pays : GoodIn wsL_law_ (va_wsS RL 174 yL_pays wsL_pays) := goodIn_app (goodIn_of _ (by decide +kernel)) ggL_law__L_pays
set_option maxRecDepth 20000 in
theorem ggL_law__X7_pays : GoodIn wsL_law_ wsX7_pays := goodIn_r _ [713, 121, 84, 714, 102, 296, 92, 96, 715, 216, 217, 218, 5, 219, 175, 149, 150, 151, 152, 153, 154, 155, 452, 453, 454, 716, 717, 718, 719, 87, 790, 791, 792, 793, 794, 795, 796, 797, 798, 799, 800, 801, 802, 803, 804, 805, 806, 807, 808, 809, 810, 811, 812, 813, 814, 815, 816, 817, 818, 819, 820, 821, 822, 823, 824, 825] (by decide +kernel) (by decide +kernel)
set_option maxRecDepth 20000 in
theorem gL_law__X7_pays : GoodIn wsL_law_ (wsV RL 176 RX7 yX7_pays wsX7_pays) := goodIn_app (goodIn_of _ (by decide +kernel)) ggL_law__X7_pays
set_option maxRecDepth 20000 in
theorem ggL_law__L_field : GoodIn wsL_law_ wsL_field := goodIn_ca (goodIn_r _ [722, 135, 723, 724, 725, 2, 726, 140, 141, 40, 727, 142, 143, 144, 728, 729, 730, 39, 731, 732, 73, 74, 75, 774, 775, 776, 777, 778, 779, 780, 781, 782, 783, 784, 785, 786, 787, 788, 789, 848, 849, 850, 851, 852] (by decide +kernel) (by decide +kernel)) (goodIn_sub (fun _ h => List.mem_append_left _ (List.mem_append_left _ (List.mem_append_left _ (List.mem_append_left _ (List.mem_append_right _ h))))) (by decide +kernel))
set_option maxRecDepth 20000 in
theorem gL_law__L_field : GoodIn wsL_law_ (va_wsS RL 177 yL_field wsL_field) := goodIn_app (goodIn_of _ (by decide +kernel)) ggL_law__L_field
set_option maxRecDepth 20000 in
theorem ggL_law__X7_field : GoodIn wsL_law_ wsX7_field := goodIn_r _ [736, 121, 737, 103, 104, 105, 149, 150, 5, 151, 152, 153, 154, 155, 790, 791, 792, 793, 794, 795, 796, 797, 798, 799, 800, 801, 802, 803, 804, 805, 806, 807, 808, 809, 810, 811, 812, 813, 814, 815, 816, 817, 818, 819, 820, 821, 822, 823, 824, 825] (by decide +kernel) (by decide +kernel)
set_option maxRecDepth 20000 in
theorem gL_law__X7_field : GoodIn wsL_law_ (wsV RL 179 RX7 yX7_field wsX7_field) := goodIn_app (goodIn_of _ (by decide +kernel)) ggL_law__X7_field
set_option maxRecDepth 20000 in
theorem ggL_law__X6_least : GoodIn wsL_law_ wsX6_least := goodIn_r _ [741, 40, 727, 742, 743, 744, 39, 745, 732, 76, 746, 75, 74, 747, 246, 243, 247, 748, 362, 363, 749, 750, 751, 752, 73, 774, 775, 776, 777, 778, 779, 780, 781, 782, 783, 784, 785, 786, 787, 788, 789, 848, 849, 850, 851, 852] (by decide +kernel) (by decide +kernel)
set_option maxRecDepth 20000 in
theorem gL_law__X6_least : GoodIn wsL_law_ (wsV RL 180 RX6 yX6_least wsX6_least) := goodIn_app (goodIn_of _ (by decide +kernel)) ggL_law__X6_least
