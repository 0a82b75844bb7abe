/-! the words found in the tables (wip/p44/gen_names.py) -/
set_option maxRecDepth 20000 in
theorem wg_25 : GoodIn lw_tb2 wsL_law_r25 := goodIn_r _ [552, 553, 554, 555, 556, 557, 558, 559, 560, 561, 562, 563, 564, 565, 566, 874, 875, 876, 877, 878, 289, 290, 291, 292] (by decide +kernel) (by decide +kernel)
set_option maxRecDepth 20000 in
theorem wg_26 : GoodIn lw_tb2 wsL_law_r26 := goodIn_r _ [381, 382, 383, 384, 75, 73, 385, 387, 18, 388, 463, 464, 465, 466, 87, 445, 447, 20, 448, 449, 450, 451, 452, 453] (by decide +kernel) (by decide +kernel)
set_option maxRecDepth 20000 in
theorem wg_27 : GoodIn lw_tb2 wsL_law_r27 := goodIn_r _ [455, 21, 456, 457, 458, 467, 468, 469, 470, 471, 473, 23, 474, 85, 475, 477, 24, 478, 486, 479, 480, 481, 482, 484] (by decide +kernel) (by decide +kernel)
set_option maxRecDepth 20000 in
theorem wg_28 : GoodIn lw_tb2 wsL_law_r28 := goodIn_r _ [25, 485, 487, 489, 26, 490, 491, 493, 27, 494, 879, 880, 881, 882, 883, 884, 885, 886, 437, 438, 439, 440, 441, 443] (by decide +kernel) (by decide +kernel)
set_option maxRecDepth 20000 in
theorem wg_29 : GoodIn lw_tb2 wsL_law_r29 := goodIn_r _ [19, 444, 459, 461, 22, 462, 887, 888, 889, 890, 891, 893, 29, 894, 343, 344, 345, 346, 348, 433, 434, 435, 436, 425] (by decide +kernel) (by decide +kernel)
set_option maxRecDepth 20000 in
theorem wg_30 : GoodIn lw_tb2 wsL_law_r30 := goodIn_r _ [426, 427, 428, 895, 896, 897, 898, 899, 900, 901, 902, 903, 904, 905, 906, 908, 30, 909, 164, 910, 916, 911, 912, 913] (by decide +kernel) (by decide +kernel)
set_option maxRecDepth 20000 in
theorem wg_31 : GoodIn lw_tb2 wsL_law_r31 := goodIn_r _ [914, 915, 917, 918, 919, 920, 921, 923, 31, 924, 77, 925, 927, 32, 928, 929, 930, 931, 932, 89, 933, 934, 935, 936] (by decide +kernel) (by decide +kernel)
set_option maxRecDepth 20000 in
theorem wg_32 : GoodIn lw_tb2 wsL_law_r32 := goodIn_r _ [938, 33, 939, 940, 942, 34, 943, 421, 422, 423, 424, 429, 430, 431, 432, 944, 945, 946, 947, 948, 950, 35, 951, 952] (by decide +kernel) (by decide +kernel)
set_option maxRecDepth 20000 in
theorem wg_33 : GoodIn lw_tb2 wsL_law_r33 := goodIn_r _ [954, 36, 955, 956, 957, 958, 959, 960, 961, 962, 963, 964, 965, 966, 968, 37, 969, 970, 972, 38, 973, 974, 975, 976] (by decide +kernel) (by decide +kernel)
set_option maxRecDepth 20000 in
theorem wg_34 : GoodIn lw_tb2 wsL_law_r34 := goodIn_r _ [977, 978, 979, 981, 39, 982, 983, 984, 985, 986, 987, 988, 989, 990, 991, 992, 993, 994, 995, 567, 568, 569, 570, 189] (by decide +kernel) (by decide +kernel)
