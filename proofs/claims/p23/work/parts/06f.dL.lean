set_option maxRecDepth 20000 in
theorem ggL_law_L_lays : GoodIn wsL_law wsL_lays := goodIn_r _ [78, 79, 80, 62, 81] (by decide +kernel) (by decide +kernel)
set_option maxRecDepth 20000 in
theorem gL_law_L_lays : GoodIn wsL_law (va_wsS RL 41 yL_lays wsL_lays) := goodIn_app (goodIn_of _ (by decide +kernel)) ggL_law_L_lays
set_option maxRecDepth 20000 in
theorem ggL_law_L_count : GoodIn wsL_law wsL_count := goodIn_r _ [84, 85, 86, 62, 87] (by decide +kernel) (by decide +kernel)
set_option maxRecDepth 20000 in
theorem gL_law_L_count : GoodIn wsL_law (va_wsS RL 21 yL_count wsL_count) := goodIn_app (goodIn_of _ (by decide +kernel)) ggL_law_L_count
set_option maxRecDepth 20000 in
theorem ggL_law_L_left : GoodIn wsL_law wsL_left := goodIn_r _ [107] (by decide +kernel) (by decide +kernel)
set_option maxRecDepth 20000 in
theorem gL_law_L_left : GoodIn wsL_law (va_wsS RL 33 yL_left wsL_left) := goodIn_app (goodIn_of _ (by decide +kernel)) ggL_law_L_left
set_option maxRecDepth 20000 in
theorem ggL_law_L_lowest : GoodIn wsL_law wsL_lowest := goodIn_r _ [234, 165, 166, 62, 167, 82, 83, 84, 85, 86, 87] (by decide +kernel) (by decide +kernel)
set_option maxRecDepth 20000 in
theorem gL_law_L_lowest : GoodIn wsL_law (va_wsS RL 45 yL_lowest wsL_lowest) := goodIn_app (goodIn_of _ (by decide +kernel)) ggL_law_L_lowest
