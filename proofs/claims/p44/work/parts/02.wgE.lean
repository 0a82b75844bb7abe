/-! the words found in the tables (wip/p44/gen_names.py) -/
set_option maxRecDepth 20000 in
theorem wg_36 : GoodIn lw_tb2 wsL_law_r36 := goodIn_r _ [1002, 1003] (by decide +kernel) (by decide +kernel)
set_option maxRecDepth 20000 in
theorem wg_wsX110 : GoodIn lw_tb2 wsX110 := goodIn_r _ [192, 194, 196, 198, 200, 202, 204, 206, 208, 210, 212, 214, 216, 218, 220, 222, 224] (by decide +kernel) (by decide +kernel)
set_option maxRecDepth 20000 in
theorem wg_wsX40 : GoodIn lw_tb2 wsX40 := goodIn_r _ [91, 93, 95, 97, 99, 101, 103, 105, 107, 109, 111] (by decide +kernel) (by decide +kernel)
set_option maxRecDepth 20000 in
theorem wg_wsX30 : GoodIn lw_tb2 wsX30 := goodIn_r _ [130, 132, 134, 136, 138, 140, 142, 144, 146] (by decide +kernel) (by decide +kernel)
set_option maxRecDepth 20000 in
theorem wg_wsX90 : GoodIn lw_tb2 wsX90 := goodIn_r _ [165, 167, 169, 171] (by decide +kernel) (by decide +kernel)
set_option maxRecDepth 20000 in
theorem wg_wsJ40 : GoodIn lw_tb2 wsJ40 := goodIn_r _ [603, 605, 607, 609] (by decide +kernel) (by decide +kernel)
set_option maxRecDepth 20000 in
theorem wg_wsJ00 : GoodIn lw_tb2 wsJ00 := goodIn_r _ [822, 824, 826, 828] (by decide +kernel) (by decide +kernel)
