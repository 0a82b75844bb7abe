/-! the words found in the tables (wip/p44/gen_names.py) -/
set_option maxRecDepth 20000 in
theorem wg_35a : GoodIn lw_tb2 [Cond.methodLink RL 199 yX11_lends, Cond.instanceMethod yX11_lends, Cond.selects RX11 yX11_lends yX11_lends, Cond.code yX11_lends cX11_lends 5 (some .int), Cond.methodLink RL 202 yX11_keep, Cond.instanceMethod yX11_keep, Cond.selects RX11 yX11_keep yX11_keep, Cond.code yX11_keep cX11_keep 3 (some .int), Cond.methodLink RX11 363 yX9_hold, Cond.instanceMethod yX9_hold, Cond.selects RX9 yX9_hold yX9_hold, Cond.code yX9_hold cX9_hold 2 none, Cond.methodLink RL 210 yX11_back, Cond.instanceMethod yX11_back, Cond.selects RX11 yX11_back yX11_back, Cond.code yX11_back cX11_back 1 (some .int), Cond.methodLink RX11 302 yX4_layBack, Cond.methodLink RL 213 yL_rest, Cond.static yL_rest] := goodIn_r _ [499, 500, 501, 502, 521, 522, 523, 524, 528, 529, 530, 531, 512, 513, 514, 515, 516, 996, 997] (by decide +kernel) (by decide +kernel)
set_option maxRecDepth 20000 in
theorem wg_35b : GoodIn lw_tb2 [Cond.code yL_rest cL_rest 15 (some .boolean)] := goodIn_sub (fun w h => by rw [List.mem_singleton.mp h]; exact List.mem_append_right xsel (List.mem_append_right (k2_sels lw_privs) (List.mem_append_right _ (List.mem_append_right _ (List.mem_append_right _ (List.mem_append_left _ (List.mem_of_getElem? (i := 238) rfl))))))) (by decide +kernel)
set_option maxRecDepth 20000 in
theorem wg_35c : GoodIn lw_tb2 [Cond.methodLink RL 225 Lib.Math.max.name, Cond.methodLink RL 217 yJ6_bitCount_0f7a4, Cond.methodLink RL 222 yL_far, Cond.static yL_far] := goodIn_r _ [1005, 999, 1000, 1001] (by decide +kernel) (by decide +kernel)
set_option maxRecDepth 20000 in
theorem wg_35 : GoodIn lw_tb2 wsL_law_r35 := goodIn_app (goodIn_app wg_35a wg_35b) wg_35c
