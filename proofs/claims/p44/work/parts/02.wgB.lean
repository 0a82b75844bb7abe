/-! the words found in the tables (wip/p44/gen_names.py) -/
set_option maxRecDepth 20000 in
theorem wg_13 : GoodIn lw_tb2 wsL_law_r13 := goodIn_r _ [661, 662, 663, 664, 665, 666, 667, 668, 51, 669, 670, 672, 673, 55, 674, 675, 676, 677, 680, 682, 684, 685, 686, 687] (by decide +kernel) (by decide +kernel)
set_option maxRecDepth 20000 in
theorem wg_14 : GoodIn lw_tb2 wsL_law_r14 := goodIn_r _ [820, 688, 689, 690, 691, 692, 821, 693, 1012, 3, 695, 696, 697, 1013, 4, 699, 700, 701, 702, 1014, 5, 704, 705, 706] (by decide +kernel) (by decide +kernel)
set_option maxRecDepth 20000 in
theorem wg_15 : GoodIn lw_tb2 wsL_law_r15 := goodIn_r _ [707, 56, 708, 709, 710, 711, 712, 713, 714, 715, 716, 717, 718, 719, 720, 721, 722, 723, 724, 725, 726, 727, 728, 729] (by decide +kernel) (by decide +kernel)
set_option maxRecDepth 20000 in
theorem wg_16 : GoodIn lw_tb2 wsL_law_r16 := goodIn_r _ [730, 731, 732, 734, 735, 736, 737, 738, 739, 740, 741, 742, 743, 744, 745, 746, 747, 748, 749, 750, 751, 752, 753, 754] (by decide +kernel) (by decide +kernel)
set_option maxRecDepth 20000 in
theorem wg_17 : GoodIn lw_tb2 wsL_law_r17 := goodIn_r _ [755, 756, 757, 758, 759, 760, 761, 762, 763, 764, 765, 1015, 766, 767, 768, 769, 770, 771, 772, 773, 774, 775, 776, 777] (by decide +kernel) (by decide +kernel)
set_option maxRecDepth 20000 in
theorem wg_18 : GoodIn lw_tb2 wsL_law_r18 := goodIn_r _ [778, 779, 780, 781, 782, 783, 784, 785, 786, 601, 787, 789, 790, 788, 791, 792, 794, 793, 795, 796, 797, 798, 793, 799] (by decide +kernel) (by decide +kernel)
set_option maxRecDepth 20000 in
theorem wg_19 : GoodIn lw_tb2 wsL_law_r19 := goodIn_r _ [800, 801, 802, 803, 804, 805, 806, 807, 808, 809, 810, 811, 812, 813, 814, 815, 816, 817, 818, 819, 831, 832, 833, 834] (by decide +kernel) (by decide +kernel)
set_option maxRecDepth 20000 in
theorem wg_20 : GoodIn lw_tb2 wsL_law_r20 := goodIn_r _ [835, 1016, 836, 837, 838, 839, 840, 841, 842, 843, 844, 846, 848, 849, 850, 851, 852, 853, 854, 855, 869, 871, 872, 873] (by decide +kernel) (by decide +kernel)
set_option maxRecDepth 20000 in
theorem wg_21 : GoodIn lw_tb2 wsL_law_r21 := goodIn_r _ [255, 256, 257, 258, 268, 259, 269, 270, 271, 272, 273, 275, 7, 276, 184, 277, 279, 8, 280, 281, 293, 294, 295, 296] (by decide +kernel) (by decide +kernel)
set_option maxRecDepth 20000 in
theorem wg_22 : GoodIn lw_tb2 wsL_law_r22 := goodIn_r _ [182, 297, 298, 299, 300, 301, 302, 303, 304, 127, 305, 128, 129, 308, 310, 9, 311, 312, 314, 10, 315, 316, 318, 11] (by decide +kernel) (by decide +kernel)
set_option maxRecDepth 20000 in
theorem wg_23 : GoodIn lw_tb2 wsL_law_r23 := goodIn_r _ [340, 341, 342, 329, 331, 14, 332, 319, 320, 322, 12, 323, 325, 327, 13, 328, 333, 334, 335, 336, 338, 15, 339, 532] (by decide +kernel) (by decide +kernel)
set_option maxRecDepth 20000 in
theorem wg_24 : GoodIn lw_tb2 wsL_law_r24 := goodIn_r _ [533, 534, 535, 525, 526, 527, 536, 537, 538, 539, 161, 163, 540, 541, 542, 543, 544, 545, 546, 547, 549, 28, 550, 551] (by decide +kernel) (by decide +kernel)
