set_option maxRecDepth 20000 in
theorem ggL_law__X7_heirs : GoodIn wsL_law_ wsX7_heirs := goodIn_r _ [485, 121, 93, 94, 92, 95, 296, 443, 444, 445, 5, 446, 149, 150, 151, 152, 153, 154, 155, 447, 448, 449, 450, 451, 452, 453, 454, 303, 304, 305, 306, 299, 300, 301, 302, 790, 791, 792, 793, 794, 795, 796, 797, 798, 799, 800, 801, 802, 803, 804, 805, 806, 807, 808, 809, 810, 811, 812, 813, 814, 815, 816, 817, 818, 819, 820, 821, 822, 823, 824, 825] (by decide +kernel) (by decide +kernel)
set_option maxRecDepth 20000 in
theorem gL_law__X7_heirs : GoodIn wsL_law_ (wsV RL 151 RX7 yX7_heirs wsX7_heirs) := goodIn_app (goodIn_of _ (by decide +kernel)) ggL_law__X7_heirs
set_option maxRecDepth 20000 in
theorem ggL_law__L_let : GoodIn wsL_law_ wsL_let := goodIn_ca (goodIn_ca (goodIn_ca (goodIn_r _ [488, 179, 180, 135, 489, 490, 491, 2, 492, 140, 141, 425, 430, 493, 494, 495, 496, 426, 427, 428, 429, 190, 191, 431, 432, 433, 434, 196, 197, 268, 29, 435, 436, 437, 31, 438, 291, 274, 275, 276, 142, 143, 144, 838, 839, 840, 841, 842, 843, 844, 774, 775, 776, 777, 778, 779, 780, 781, 782, 783, 784, 785, 786, 787, 788, 789] (by decide +kernel) (by decide +kernel)) (goodIn_sub (fun _ h => List.mem_append_left _ (List.mem_append_left _ (List.mem_append_left _ (List.mem_append_left _ (List.mem_append_right _ h))))) (by decide +kernel))) (goodIn_sub (fun _ h => List.mem_append_left _ (List.mem_append_left _ (List.mem_append_right _ h))) (by decide +kernel))) (goodIn_sub (fun _ h => List.mem_append_left _ (List.mem_append_right _ h)) (by decide +kernel))
set_option maxRecDepth 20000 in
theorem gL_law__L_let : GoodIn wsL_law_ (va_wsS RL 152 yL_let wsL_let) := goodIn_app (goodIn_of _ (by decide +kernel)) ggL_law__L_let
set_option maxRecDepth 20000 in
theorem ggL_law__X7_let : GoodIn wsL_law_ wsX7_let := goodIn_r _ [500, 121, 92, 451, 501, 443, 444, 445, 5, 446, 296, 149, 150, 151, 152, 153, 154, 155, 447, 448, 449, 450, 452, 453, 454, 790, 791, 792, 793, 794, 795, 796, 797, 798, 799, 800, 801, 802, 803, 804, 805, 806, 807, 808, 809, 810, 811, 812, 813, 814, 815, 816, 817, 818, 819, 820, 821, 822, 823, 824, 825] (by decide +kernel) (by decide +kernel)
set_option maxRecDepth 20000 in
theorem gL_law__X7_let : GoodIn wsL_law_ (wsV RL 154 RX7 yX7_let wsX7_let) := goodIn_app (goodIn_of _ (by decide +kernel)) ggL_law__X7_let
set_option maxRecDepth 20000 in
theorem ggL_law__L_minutes : GoodIn wsL_law_ wsL_minutes := goodIn_ca (goodIn_r _ [504, 135, 505, 506, 507, 2, 508, 140, 141, 509, 430, 142, 143, 144, 774, 775, 776, 777, 778, 779, 780, 781, 782, 783, 784, 785, 786, 787, 788, 789] (by decide +kernel) (by decide +kernel)) (goodIn_sub (fun _ h => List.mem_append_left _ (List.mem_append_left _ (List.mem_append_left _ (List.mem_append_left _ (List.mem_append_right _ h))))) (by decide +kernel))
set_option maxRecDepth 20000 in
theorem gL_law__L_minutes : GoodIn wsL_law_ (va_wsS RL 155 yL_minutes wsL_minutes) := goodIn_app (goodIn_of _ (by decide +kernel)) ggL_law__L_minutes
set_option maxRecDepth 20000 in
theorem ggL_law__X7_minutes : GoodIn wsL_law_ wsX7_minutes := goodIn_r _ [513, 121, 514, 451, 149, 150, 5, 151, 152, 153, 154, 155, 790, 791, 792, 793, 794, 795, 796, 797, 798, 799, 800, 801, 802, 803, 804, 805, 806, 807, 808, 809, 810, 811, 812, 813, 814, 815, 816, 817, 818, 819, 820, 821, 822, 823, 824, 825] (by decide +kernel) (by decide +kernel)
set_option maxRecDepth 20000 in
theorem gL_law__X7_minutes : GoodIn wsL_law_ (wsV RL 157 RX7 yX7_minutes wsX7_minutes) := goodIn_app (goodIn_of _ (by decide +kernel)) ggL_law__X7_minutes
set_option maxRecDepth 20000 in
theorem ggL_law__L_holder : GoodIn wsL_law_ wsL_holder := goodIn_ca (goodIn_ca (goodIn_r _ [517, 179, 135, 518, 519, 520, 2, 521, 140, 141, 269, 268, 29, 424, 422, 423, 192, 193, 194, 195, 196, 197, 170, 23, 522, 523, 524, 31, 525, 290, 291, 289, 288, 830, 831, 832, 833, 834, 835, 836, 837, 774, 775, 776, 777, 778, 779, 780, 781, 782, 783, 784, 785, 786, 787, 788, 789, 838, 839, 840, 841, 842, 843, 844] (by decide +kernel) (by decide +kernel)) (goodIn_sub (fun _ h => List.mem_append_left _ (List.mem_append_left _ (List.mem_append_left _ (List.mem_append_left _ (List.mem_append_right _ h))))) (by decide +kernel))) (goodIn_sub (fun _ h => List.mem_append_left _ (List.mem_append_right _ h)) (by decide +kernel))
set_option maxRecDepth 20000 in
theorem gL_law__L_holder : GoodIn wsL_law_ (va_wsS RL 158 yL_holder wsL_holder) := goodIn_app (goodIn_of _ (by decide +kernel)) ggL_law__L_holder
set_option maxRecDepth 20000 in
theorem ggL_law__X7_holder : GoodIn wsL_law_ wsX7_holder := goodIn_r _ [529, 121, 84, 87, 296, 92, 216, 217, 218, 5, 219, 175, 149, 150, 151, 152, 153, 154, 155, 790, 791, 792, 793, 794, 795, 796, 797, 798, 799, 800, 801, 802, 803, 804, 805, 806, 807, 808, 809, 810, 811, 812, 813, 814, 815, 816, 817, 818, 819, 820, 821, 822, 823, 824, 825] (by decide +kernel) (by decide +kernel)
set_option maxRecDepth 20000 in
theorem gL_law__X7_holder : GoodIn wsL_law_ (wsV RL 160 RX7 yX7_holder wsX7_holder) := goodIn_app (goodIn_of _ (by decide +kernel)) ggL_law__X7_holder
set_option maxRecDepth 20000 in
theorem ggL_law__L_share : GoodIn wsL_law_ wsL_share := goodIn_ca (goodIn_ca (goodIn_r _ [532, 179, 533, 534, 535, 536, 2, 537, 538, 539, 424, 422, 423, 425, 430, 431, 432, 433, 434, 196, 197, 268, 29, 435, 436, 437, 31, 438, 291, 838, 839, 840, 841, 842, 843, 844, 774, 775, 776, 777, 778, 779, 780, 781, 782, 783, 784, 785, 786, 787, 788, 789] (by decide +kernel) (by decide +kernel)) (goodIn_sub (fun _ h => List.mem_append_right _ h) (by decide +kernel))) (goodIn_sub (fun _ h => List.mem_append_left _ (List.mem_append_right _ h)) (by decide +kernel))
set_option maxRecDepth 20000 in
theorem gL_law__L_share : GoodIn wsL_law_ (va_wsS RL 161 yL_share wsL_share) := goodIn_app (goodIn_of _ (by decide +kernel)) ggL_law__L_share
set_option maxRecDepth 20000 in
theorem ggL_law__X7_share : GoodIn wsL_law_ wsX7_share := goodIn_r _ [543, 121, 92, 443, 444, 445, 5, 446, 296, 149, 150, 151, 152, 153, 154, 155, 447, 448, 449, 450, 451, 790, 791, 792, 793, 794, 795, 796, 797, 798, 799, 800, 801, 802, 803, 804, 805, 806, 807, 808, 809, 810, 811, 812, 813, 814, 815, 816, 817, 818, 819, 820, 821, 822, 823, 824, 825] (by decide +kernel) (by decide +kernel)
set_option maxRecDepth 20000 in
theorem gL_law__X7_share : GoodIn wsL_law_ (wsV RL 163 RX7 yX7_share wsX7_share) := goodIn_app (goodIn_of _ (by decide +kernel)) ggL_law__X7_share
set_option maxRecDepth 20000 in
theorem ggL_law__L_law : GoodIn wsL_law_ wsL_law := goodIn_ca (goodIn_r _ [546, 135, 547, 548, 549, 2, 550, 140, 141, 16, 20, 18, 111, 551, 21, 552, 553, 554, 555, 556, 557, 558, 559, 15, 560, 48, 561, 562, 563, 47, 564, 565, 566, 567, 568, 569, 570, 571, 572, 573, 574, 575, 576, 143, 144, 577, 578, 579, 580, 581, 582, 583, 584, 585, 586, 587, 588, 589, 590, 591, 592, 593, 594, 595, 596, 597, 598, 599, 600, 601, 602, 603, 604, 605, 606, 607, 608, 609, 610, 611, 612, 613, 614, 615, 616, 617, 618, 619, 620, 621, 622, 623, 624, 625, 626, 627, 628, 629, 630, 631, 632, 633, 634, 635, 636, 637, 638, 639, 640, 774, 775, 776, 777, 778, 779, 780, 781, 782, 783, 784, 785, 786, 787, 788, 789, 853, 854, 826, 827, 828, 829] (by decide +kernel) (by decide +kernel)) (goodIn_sub (fun _ h => List.mem_append_left _ (List.mem_append_left _ (List.mem_append_left _ (List.mem_append_left _ (List.mem_append_right _ h))))) (by decide +kernel))
set_option maxRecDepth 20000 in
theorem gL_law__L_law : GoodIn wsL_law_ (va_wsS RL 164 yL_law wsL_law) := goodIn_app (goodIn_of _ (by decide +kernel)) ggL_law__L_law
