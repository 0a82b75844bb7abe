/-! the words found in the tables (wip/p44/gen_names.py) -/
set_option maxRecDepth 20000 in
theorem wg_1 : GoodIn lw_tb2 wsL_law_r1 := goodIn_r _ [57, 58, 41, 114, 1004, 1007, 1006, 306, 46, 307, 59, 60, 61, 62, 63, 64, 65, 66, 42, 175, 176, 177, 115, 116] (by decide +kernel) (by decide +kernel)
set_option maxRecDepth 20000 in
theorem wg_2 : GoodIn lw_tb2 wsL_law_r2 := goodIn_r _ [43, 179, 180, 181, 149, 183, 186, 187, 151, 188, 190, 153, 191, 155, 44, 68, 69, 70, 71, 72, 74, 76, 78, 80] (by decide +kernel) (by decide +kernel)
set_option maxRecDepth 20000 in
theorem wg_3 : GoodIn lw_tb2 wsL_law_r3 := goodIn_r _ [82, 88, 118, 119, 120, 121, 122, 123, 124, 157, 158, 159, 174, 160, 162, 517, 518, 519, 520, 185, 284, 285, 286, 287] (by decide +kernel) (by decide +kernel)
set_option maxRecDepth 20000 in
theorem wg_4 : GoodIn lw_tb2 wsL_law_r4 := goodIn_r _ [90, 288, 260, 261, 262, 263, 239, 240, 241, 84, 236, 237, 264, 265, 266, 267, 86, 508, 509, 510, 511, 178, 83, 389] (by decide +kernel) (by decide +kernel)
set_option maxRecDepth 20000 in
theorem wg_5 : GoodIn lw_tb2 wsL_law_r5 := goodIn_r _ [390, 391, 392, 393, 283, 282, 45, 394, 395, 396, 397, 495, 496, 497, 498, 398, 399, 400, 401, 402, 403, 404, 405, 377] (by decide +kernel) (by decide +kernel)
set_option maxRecDepth 20000 in
theorem wg_6 : GoodIn lw_tb2 wsL_law_r6 := goodIn_r _ [406, 349, 350, 351, 378, 379, 380, 352, 353, 354, 355, 356, 357, 358, 359, 360, 361, 125, 362, 363, 364, 365, 126, 366] (by decide +kernel) (by decide +kernel)
set_option maxRecDepth 20000 in
theorem wg_7 : GoodIn lw_tb2 wsL_law_r7 := goodIn_r _ [368, 16, 369, 370, 372, 17, 373, 374, 375, 376, 407, 408, 409, 410, 411, 48, 412, 413, 414, 415, 416, 417, 418, 419] (by decide +kernel) (by decide +kernel)
set_option maxRecDepth 20000 in
theorem wg_8 : GoodIn lw_tb2 wsL_law_r8 := goodIn_r _ [420, 227, 228, 229, 230, 231, 233, 6, 234, 235, 238, 243, 244, 245, 246, 247, 248, 249, 250, 251, 252, 253, 254, 503] (by decide +kernel) (by decide +kernel)
set_option maxRecDepth 20000 in
theorem wg_9 : GoodIn lw_tb2 wsL_law_r9 := goodIn_r _ [504, 505, 506, 79, 81, 347, 507, 577, 578, 40, 579, 581, 582, 50, 571, 572, 573, 574, 575, 576, 583, 584, 585, 586] (by decide +kernel) (by decide +kernel)
set_option maxRecDepth 20000 in
theorem wg_10 : GoodIn lw_tb2 wsL_law_r10 := goodIn_r _ [587, 49, 588, 589, 590, 612, 599, 600, 592, 593, 52, 594, 595, 596, 597, 598, 613, 614, 615, 616, 617, 1008, 611, 618] (by decide +kernel) (by decide +kernel)
set_option maxRecDepth 20000 in
theorem wg_11 : GoodIn lw_tb2 wsL_law_r11 := goodIn_r _ [619, 602, 620, 1009, 0, 622, 623, 624, 1010, 1, 626, 627, 628, 1011, 2, 630, 631, 640, 632, 633, 53, 634, 635, 636] (by decide +kernel) (by decide +kernel)
set_option maxRecDepth 20000 in
theorem wg_12 : GoodIn lw_tb2 wsL_law_r12 := goodIn_r _ [637, 638, 639, 641, 642, 54, 643, 644, 645, 646, 647, 648, 650, 651, 652, 653, 655, 656, 654, 657, 658, 659, 660, 678] (by decide +kernel) (by decide +kernel)
