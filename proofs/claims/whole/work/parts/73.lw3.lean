set_option maxRecDepth 20000 in
theorem ggL_law_X4_init : GoodIn wsL_law wsX4_init := goodIn_p _ [54, 12, 67] rfl (by decide +kernel)
set_option maxRecDepth 20000 in
theorem gL_law_X4_init : GoodIn wsL_law (wsX4_init) := ggL_law_X4_init
set_option maxRecDepth 20000 in
theorem ggL_law_X4_load : GoodIn wsL_law wsX4_load := goodIn_p _ [125, 133, 136] rfl (by decide +kernel)
set_option maxRecDepth 20000 in
theorem gL_law_X4_load : GoodIn wsL_law (wsV RL 19 RX4 yX4_load wsX4_load) := goodIn_app (goodIn_of _ (by decide +kernel)) ggL_law_X4_load
set_option maxRecDepth 20000 in
theorem ggL_law_X4_push : GoodIn wsL_law wsX4_push := goodIn_p _ [163, 133, 167, 173, 177, 181, 136] rfl (by decide +kernel)
set_option maxRecDepth 20000 in
theorem gL_law_X4_push : GoodIn wsL_law (wsV RL 24 RX4 yX4_push wsX4_push) := goodIn_app (goodIn_of _ (by decide +kernel)) ggL_law_X4_push
set_option maxRecDepth 20000 in
theorem ggL_law_X4_reckon : GoodIn wsL_law wsX4_reckon := goodIn_p _ [228, 133, 232, 236, 167, 240, 177, 243, 181, 136, 246, 173, 250] rfl (by decide +kernel)
set_option maxRecDepth 20000 in
theorem gL_law_X4_reckon : GoodIn wsL_law (wsV RL 29 RX4 yX4_reckon wsX4_reckon) := goodIn_app (goodIn_of _ (by decide +kernel)) ggL_law_X4_reckon
set_option maxRecDepth 20000 in
theorem ggL_law_X4_divide : GoodIn wsL_law wsX4_divide := goodIn_p _ [297, 133, 177, 136, 167, 240, 301, 243, 304, 308, 173, 181] rfl (by decide +kernel)
set_option maxRecDepth 20000 in
theorem gL_law_X4_divide : GoodIn wsL_law (wsV RL 34 RX4 yX4_divide wsX4_divide) := goodIn_app (goodIn_of _ (by decide +kernel)) ggL_law_X4_divide
set_option maxRecDepth 20000 in
theorem ggL_law_X4_part : GoodIn wsL_law wsX4_part := goodIn_p _ [316, 133, 177, 236, 167, 240, 301, 243, 173] rfl (by decide +kernel)
set_option maxRecDepth 20000 in
theorem gL_law_X4_part : GoodIn wsL_law (wsV RL 38 RX4 yX4_part wsX4_part) := goodIn_app (goodIn_of _ (by decide +kernel)) ggL_law_X4_part
set_option maxRecDepth 20000 in
theorem ggL_law_X4_scale : GoodIn wsL_law wsX4_scale := goodIn_p _ [324, 133, 136, 167, 240, 177, 328, 332, 304, 308, 173, 181] rfl (by decide +kernel)
set_option maxRecDepth 20000 in
theorem gL_law_X4_scale : GoodIn wsL_law (wsV RL 42 RX4 yX4_scale wsX4_scale) := goodIn_app (goodIn_of _ (by decide +kernel)) ggL_law_X4_scale
set_option maxRecDepth 20000 in
theorem ggL_law_X4_round : GoodIn wsL_law wsX4_round := goodIn_p _ [344, 133, 167, 328, 332, 304, 308, 181, 136] rfl (by decide +kernel)
set_option maxRecDepth 20000 in
theorem gL_law_X4_round : GoodIn wsL_law (wsV RL 46 RX4 yX4_round wsX4_round) := goodIn_app (goodIn_of _ (by decide +kernel)) ggL_law_X4_round
set_option maxRecDepth 20000 in
theorem ggL_law_X4_turn : GoodIn wsL_law wsX4_turn := goodIn_p _ [360, 133, 167, 177, 328, 332, 304, 308, 181, 136] rfl (by decide +kernel)
set_option maxRecDepth 20000 in
theorem gL_law_X4_turn : GoodIn wsL_law (wsV RL 51 RX4 yX4_turn wsX4_turn) := goodIn_app (goodIn_of _ (by decide +kernel)) ggL_law_X4_turn
