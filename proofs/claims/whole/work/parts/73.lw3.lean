set_option maxRecDepth 20000 in
theorem ggL_law_X4_init : GoodIn wsL_law wsX4_init := goodIn_r _ [54, 55, 11, 12, 56, 57, 58, 59, 60, 61, 62, 63, 64, 65, 66, 67, 68, 69, 70, 465, 466, 467, 468, 469, 470, 471, 477, 478, 479, 480] (by decide +kernel) (by decide +kernel)
set_option maxRecDepth 20000 in
theorem gL_law_X4_init : GoodIn wsL_law (wsX4_init) := ggL_law_X4_init
set_option maxRecDepth 20000 in
theorem ggL_law_X4_load : GoodIn wsL_law wsX4_load := goodIn_r _ [125, 57, 126, 127, 128, 129, 130, 131, 132, 5, 133, 134, 135, 136, 137, 138, 465, 466, 467, 468, 469, 470, 471, 477, 478, 479, 480] (by decide +kernel) (by decide +kernel)
set_option maxRecDepth 20000 in
theorem gL_law_X4_load : GoodIn wsL_law (wsV RL 19 RX4 yX4_load wsX4_load) := goodIn_app (goodIn_of _ (by decide +kernel)) ggL_law_X4_load
set_option maxRecDepth 20000 in
theorem ggL_law_X4_push : GoodIn wsL_law wsX4_push := goodIn_r _ [163, 60, 57, 126, 128, 127, 131, 132, 5, 133, 164, 165, 166, 59, 167, 70, 168, 169, 69, 170, 171, 172, 173, 174, 175, 176, 177, 178, 179, 180, 181, 130, 134, 135, 136, 137, 138, 465, 466, 467, 468, 469, 470, 471, 477, 478, 479, 480] (by decide +kernel) (by decide +kernel)
set_option maxRecDepth 20000 in
theorem gL_law_X4_push : GoodIn wsL_law (wsV RL 24 RX4 yX4_push wsX4_push) := goodIn_app (goodIn_of _ (by decide +kernel)) ggL_law_X4_push
set_option maxRecDepth 20000 in
theorem ggL_law_X4_reckon : GoodIn wsL_law wsX4_reckon := goodIn_r _ [228, 60, 57, 62, 131, 132, 5, 133, 229, 230, 231, 232, 129, 61, 233, 234, 235, 236, 130, 164, 165, 166, 59, 167, 70, 168, 169, 69, 237, 238, 239, 240, 174, 175, 176, 177, 241, 242, 243, 126, 128, 178, 179, 180, 181, 134, 135, 136, 137, 138, 244, 245, 246, 170, 171, 172, 173, 247, 248, 249, 250, 251, 465, 466, 467, 468, 469, 470, 471, 477, 478, 479, 480] (by decide +kernel) (by decide +kernel)
set_option maxRecDepth 20000 in
theorem gL_law_X4_reckon : GoodIn wsL_law (wsV RL 29 RX4 yX4_reckon wsX4_reckon) := goodIn_app (goodIn_of _ (by decide +kernel)) ggL_law_X4_reckon
set_option maxRecDepth 20000 in
theorem ggL_law_X4_divide : GoodIn wsL_law wsX4_divide := goodIn_r _ [297, 57, 60, 61, 129, 130, 126, 128, 62, 131, 132, 5, 133, 251, 175, 176, 59, 177, 70, 69, 134, 135, 136, 137, 138, 164, 165, 166, 167, 168, 169, 237, 238, 239, 240, 174, 298, 299, 300, 301, 63, 241, 242, 243, 302, 303, 304, 305, 306, 307, 308, 170, 171, 172, 173, 178, 179, 180, 181, 465, 466, 467, 468, 469, 470, 471, 477, 478, 479, 480] (by decide +kernel) (by decide +kernel)
set_option maxRecDepth 20000 in
theorem gL_law_X4_divide : GoodIn wsL_law (wsV RL 34 RX4 yX4_divide wsX4_divide) := goodIn_app (goodIn_of _ (by decide +kernel)) ggL_law_X4_divide
set_option maxRecDepth 20000 in
theorem ggL_law_X4_part : GoodIn wsL_law wsX4_part := goodIn_r _ [316, 57, 60, 129, 62, 61, 130, 126, 131, 132, 5, 133, 251, 175, 176, 59, 177, 70, 69, 233, 234, 235, 236, 164, 165, 166, 167, 168, 169, 237, 238, 239, 240, 174, 298, 299, 300, 301, 63, 128, 241, 242, 243, 170, 171, 172, 173, 465, 466, 467, 468, 469, 470, 471, 477, 478, 479, 480] (by decide +kernel) (by decide +kernel)
set_option maxRecDepth 20000 in
theorem gL_law_X4_part : GoodIn wsL_law (wsV RL 38 RX4 yX4_part wsX4_part) := goodIn_app (goodIn_of _ (by decide +kernel)) ggL_law_X4_part
set_option maxRecDepth 20000 in
theorem ggL_law_X4_scale : GoodIn wsL_law wsX4_scale := goodIn_r _ [324, 60, 57, 130, 131, 132, 5, 133, 134, 135, 136, 137, 138, 164, 165, 166, 59, 167, 70, 168, 169, 69, 237, 238, 239, 240, 174, 175, 176, 177, 325, 326, 327, 328, 126, 128, 129, 329, 330, 331, 332, 302, 303, 304, 305, 306, 307, 308, 170, 171, 172, 173, 178, 179, 180, 181, 465, 466, 467, 468, 469, 470, 471, 477, 478, 479, 480] (by decide +kernel) (by decide +kernel)
set_option maxRecDepth 20000 in
theorem gL_law_X4_scale : GoodIn wsL_law (wsV RL 42 RX4 yX4_scale wsX4_scale) := goodIn_app (goodIn_of _ (by decide +kernel)) ggL_law_X4_scale
set_option maxRecDepth 20000 in
theorem ggL_law_X4_round : GoodIn wsL_law wsX4_round := goodIn_r _ [344, 57, 126, 60, 130, 131, 132, 5, 133, 164, 165, 166, 59, 167, 70, 168, 169, 69, 325, 326, 327, 328, 128, 129, 329, 330, 331, 332, 302, 303, 304, 305, 306, 307, 308, 178, 179, 180, 181, 134, 135, 136, 137, 138, 465, 466, 467, 468, 469, 470, 471, 477, 478, 479, 480] (by decide +kernel) (by decide +kernel)
set_option maxRecDepth 20000 in
theorem gL_law_X4_round : GoodIn wsL_law (wsV RL 46 RX4 yX4_round wsX4_round) := goodIn_app (goodIn_of _ (by decide +kernel)) ggL_law_X4_round
set_option maxRecDepth 20000 in
theorem ggL_law_X4_turn : GoodIn wsL_law wsX4_turn := goodIn_r _ [360, 60, 57, 129, 126, 128, 130, 131, 132, 5, 133, 164, 165, 166, 59, 167, 70, 168, 169, 69, 251, 175, 176, 177, 325, 326, 327, 328, 329, 330, 331, 332, 302, 303, 304, 305, 306, 307, 308, 178, 179, 180, 181, 134, 135, 136, 137, 138, 465, 466, 467, 468, 469, 470, 471, 477, 478, 479, 480] (by decide +kernel) (by decide +kernel)
set_option maxRecDepth 20000 in
theorem gL_law_X4_turn : GoodIn wsL_law (wsV RL 51 RX4 yX4_turn wsX4_turn) := goodIn_app (goodIn_of _ (by decide +kernel)) ggL_law_X4_turn
set_option maxRecDepth 20000 in
theorem ggL_law_X4_move : GoodIn wsL_law wsX4_move := goodIn_r _ [368, 60, 57, 130, 131, 132, 5, 133, 164, 165, 166, 59, 167, 70, 168, 169, 69, 237, 238, 239, 240, 174, 175, 176, 177, 178, 179, 180, 181, 126, 134, 135, 136, 137, 138, 465, 466, 467, 468, 469, 470, 471, 477, 478, 479, 480] (by decide +kernel) (by decide +kernel)
set_option maxRecDepth 20000 in
theorem gL_law_X4_move : GoodIn wsL_law (wsV RL 55 RX4 yX4_move wsX4_move) := goodIn_app (goodIn_of _ (by decide +kernel)) ggL_law_X4_move
set_option maxRecDepth 20000 in
theorem ggL_law_X4_power : GoodIn wsL_law wsX4_power := goodIn_r _ [376, 57, 126, 60, 128, 130, 62, 131, 132, 5, 133, 377, 378, 379, 59, 380, 70, 69, 168, 244, 245, 246, 129, 170, 171, 172, 173, 174, 175, 176, 177, 164, 165, 166, 167, 169, 178, 179, 180, 181, 134, 135, 136, 137, 138, 465, 466, 467, 468, 469, 470, 471, 477, 478, 479, 480] (by decide +kernel) (by decide +kernel)
set_option maxRecDepth 20000 in
theorem gL_law_X4_power : GoodIn wsL_law (wsV RL 59 RX4 yX4_power wsX4_power) := goodIn_app (goodIn_of _ (by decide +kernel)) ggL_law_X4_power
set_option maxRecDepth 20000 in
theorem ggL_law_X4_compare : GoodIn wsL_law wsX4_compare := goodIn_r _ [388, 131, 132, 5, 133, 229, 230, 231, 232, 60, 129, 61, 233, 234, 235, 236, 57, 130, 164, 165, 166, 59, 167, 70, 168, 169, 69, 237, 238, 239, 240, 174, 175, 176, 177, 241, 242, 243, 126, 128, 465, 466, 467, 468, 469, 470, 471, 477, 478, 479, 480] (by decide +kernel) (by decide +kernel)
set_option maxRecDepth 20000 in
theorem gL_law_X4_compare : GoodIn wsL_law (wsV RL 64 RX4 yX4_compare wsX4_compare) := goodIn_app (goodIn_of _ (by decide +kernel)) ggL_law_X4_compare
set_option maxRecDepth 20000 in
theorem ggL_law_X4_same : GoodIn wsL_law wsX4_same := goodIn_r _ [396, 57, 129, 130, 131, 132, 5, 133, 241, 242, 243, 126, 128, 465, 466, 467, 468, 469, 470, 471, 477, 478, 479, 480] (by decide +kernel) (by decide +kernel)
set_option maxRecDepth 20000 in
theorem gL_law_X4_same : GoodIn wsL_law (wsV RL 69 RX4 yX4_same wsX4_same) := goodIn_app (goodIn_of _ (by decide +kernel)) ggL_law_X4_same
set_option maxRecDepth 20000 in
theorem ggL_law_X4_look : GoodIn wsL_law wsX4_look := goodIn_r _ [404, 57, 129, 126, 130, 131, 132, 5, 133, 251, 175, 176, 59, 177, 70, 69, 465, 466, 467, 468, 469, 470, 471, 477, 478, 479, 480] (by decide +kernel) (by decide +kernel)
set_option maxRecDepth 20000 in
theorem gL_law_X4_look : GoodIn wsL_law (wsV RL 73 RX4 yX4_look wsX4_look) := goodIn_app (goodIn_of _ (by decide +kernel)) ggL_law_X4_look
set_option maxRecDepth 20000 in
theorem ggL_law_X4_digit : GoodIn wsL_law wsX4_digit := goodIn_r _ [412, 57, 126, 128, 131, 132, 5, 133, 465, 466, 467, 468, 469, 470, 471, 477, 478, 479, 480] (by decide +kernel) (by decide +kernel)
set_option maxRecDepth 20000 in
theorem gL_law_X4_digit : GoodIn wsL_law (wsV RL 77 RX4 yX4_digit wsX4_digit) := goodIn_app (goodIn_of _ (by decide +kernel)) ggL_law_X4_digit
set_option maxRecDepth 20000 in
theorem ggL_law_X4_whole : GoodIn wsL_law wsX4_whole := goodIn_r _ [424, 57, 130, 126, 127, 128, 129, 131, 132, 5, 133, 465, 466, 467, 468, 469, 470, 471, 477, 478, 479, 480] (by decide +kernel) (by decide +kernel)
set_option maxRecDepth 20000 in
theorem gL_law_X4_whole : GoodIn wsL_law (wsV RL 82 RX4 yX4_whole wsX4_whole) := goodIn_app (goodIn_of _ (by decide +kernel)) ggL_law_X4_whole
set_option maxRecDepth 20000 in
theorem ggL_law_X4_write : GoodIn wsL_law wsX4_write := goodIn_r _ [444, 57, 445, 129, 126, 130, 128, 131, 132, 5, 133, 446, 447, 448, 449, 65, 251, 175, 176, 59, 177, 70, 69, 465, 466, 467, 468, 469, 470, 471, 477, 478, 479, 480] (by decide +kernel) (by decide +kernel)
set_option maxRecDepth 20000 in
theorem gL_law_X4_write : GoodIn wsL_law (wsV RL 87 RX4 yX4_write wsX4_write) := goodIn_app (goodIn_of _ (by decide +kernel)) ggL_law_X4_write
set_option maxRecDepth 20000 in
theorem ggL_law_X4_octet : GoodIn wsL_law wsX4_octet := goodIn_r _ [457, 445, 65, 465, 466, 467, 468, 469, 470, 471] (by decide +kernel) (by decide +kernel)
set_option maxRecDepth 20000 in
theorem gL_law_X4_octet : GoodIn wsL_law (wsV RL 91 RX4 yX4_octet wsX4_octet) := goodIn_app (goodIn_of _ (by decide +kernel)) ggL_law_X4_octet
