/-! the words found in the tables (wip/p44/gen_names.py) -/
set_option maxRecDepth 20000 in
theorem wg_35 : GoodIn lw_tb2 wsL_law_r35 := goodIn_r _ [499, 500, 501, 502, 521, 522, 523, 524, 528, 529, 530, 531, 512, 513, 514, 515, 516, 996, 997, 998, 1005, 999, 1000, 1001] (by decide +kernel) (by decide +kernel)
