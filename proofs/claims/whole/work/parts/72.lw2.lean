set_option maxRecDepth 20000 in
theorem ggL_law_X2_init : GoodIn wsL_law wsX2_init := goodIn_r _ [9, 10, 11, 12, 13, 14, 15, 16, 17, 18, 19, 20, 21, 22, 23, 24, 25, 26, 27, 28, 29, 30, 31, 32, 33, 34, 35, 36, 37, 38, 39, 40, 41, 42, 43, 44, 45, 46, 47, 48, 49, 50, 51, 458, 459, 460, 461, 462, 463, 464, 472, 473, 474, 475, 476] (by decide +kernel) (by decide +kernel)
set_option maxRecDepth 20000 in
theorem gL_law_X2_init : GoodIn wsL_law (wsX2_init) := ggL_law_X2_init
set_option maxRecDepth 20000 in
theorem ggL_law_X2_load : GoodIn wsL_law wsX2_load := goodIn_r _ [74, 17, 19, 75, 76, 77, 78, 2, 79, 38, 39, 40, 22, 41, 37, 42, 43, 44, 45, 46, 47, 48, 49, 50, 51, 80, 81, 82, 83, 14, 84, 85, 86, 87, 88, 89, 90, 91, 92, 93, 94, 95, 96, 97, 98, 99, 100, 101, 102, 16, 103, 32, 104, 105, 106, 107, 108, 109, 110, 111, 112, 113, 114, 115, 116, 117, 118, 119, 120, 121, 458, 459, 460, 461, 462, 463, 464, 472, 473, 474, 475, 476] (by decide +kernel) (by decide +kernel)
set_option maxRecDepth 20000 in
theorem gL_law_X2_load : GoodIn wsL_law (wsV RL 15 RX2 yX2_load wsX2_load) := goodIn_app (goodIn_of _ (by decide +kernel)) ggL_law_X2_load
set_option maxRecDepth 20000 in
theorem ggL_law_X2_push : GoodIn wsL_law wsX2_push := goodIn_r _ [142, 17, 14, 19, 23, 143, 77, 78, 2, 79, 100, 101, 102, 16, 103, 32, 104, 105, 106, 107, 108, 109, 110, 111, 112, 22, 113, 37, 114, 115, 116, 117, 47, 118, 119, 120, 121, 144, 145, 146, 147, 95, 42, 148, 149, 150, 151, 152, 153, 154, 155, 38, 39, 40, 41, 43, 44, 45, 46, 48, 49, 50, 51, 156, 157, 158, 159, 88, 89, 90, 80, 81, 82, 83, 76, 84, 85, 86, 87, 91, 92, 93, 94, 96, 97, 98, 99, 458, 459, 460, 461, 462, 463, 464, 472, 473, 474, 475, 476] (by decide +kernel) (by decide +kernel)
set_option maxRecDepth 20000 in
theorem gL_law_X2_push : GoodIn wsL_law (wsV RL 20 RX2 yX2_push wsX2_push) := goodIn_app (goodIn_of _ (by decide +kernel)) ggL_law_X2_push
set_option maxRecDepth 20000 in
theorem ggL_law_X2_reckon : GoodIn wsL_law wsX2_reckon := goodIn_r _ [185, 14, 75, 17, 77, 78, 2, 79, 186, 187, 188, 189, 76, 190, 89, 45, 90, 23, 24, 191, 192, 193, 194, 19, 195, 111, 112, 22, 113, 37, 114, 115, 116, 117, 47, 144, 145, 146, 147, 95, 42, 148, 149, 150, 151, 152, 153, 154, 155, 156, 157, 158, 159, 88, 196, 107, 108, 16, 109, 32, 104, 105, 110, 118, 119, 120, 121, 197, 198, 199, 200, 201, 202, 203, 204, 205, 206, 207, 208, 209, 210, 211, 212, 213, 214, 215, 216, 48, 49, 50, 51, 217, 218, 219, 220, 221, 222, 223, 224, 100, 101, 102, 103, 106, 80, 81, 82, 83, 84, 85, 86, 87, 91, 92, 93, 94, 96, 97, 98, 99, 458, 459, 460, 461, 462, 463, 464, 472, 473, 474, 475, 476] (by decide +kernel) (by decide +kernel)
set_option maxRecDepth 20000 in
theorem gL_law_X2_reckon : GoodIn wsL_law (wsV RL 25 RX2 yX2_reckon wsX2_reckon) := goodIn_app (goodIn_of _ (by decide +kernel)) ggL_law_X2_reckon
set_option maxRecDepth 20000 in
theorem ggL_law_X2_divide : GoodIn wsL_law wsX2_divide := goodIn_r _ [255, 14, 19, 77, 78, 2, 79, 256, 257, 258, 259, 119, 120, 22, 121, 47, 260, 261, 262, 263, 97, 98, 99, 264, 265, 266, 267, 23, 24, 17, 75, 76, 191, 192, 193, 194, 195, 111, 112, 113, 37, 114, 115, 116, 117, 144, 145, 146, 147, 95, 42, 148, 149, 150, 151, 152, 153, 154, 155, 268, 269, 270, 271, 272, 48, 49, 50, 51, 273, 274, 275, 276, 277, 278, 279, 280, 281, 282, 283, 284, 205, 206, 207, 208, 285, 286, 287, 288, 18, 156, 157, 158, 159, 88, 89, 45, 90, 197, 198, 199, 200, 289, 290, 291, 292, 293, 92, 93, 94, 96, 80, 81, 82, 83, 84, 85, 86, 87, 91, 100, 101, 102, 16, 103, 32, 104, 105, 106, 107, 108, 109, 110, 118, 458, 459, 460, 461, 462, 463, 464, 472, 473, 474, 475, 476] (by decide +kernel) (by decide +kernel)
set_option maxRecDepth 20000 in
theorem gL_law_X2_divide : GoodIn wsL_law (wsV RL 30 RX2 yX2_divide wsX2_divide) := goodIn_app (goodIn_of _ (by decide +kernel)) ggL_law_X2_divide
set_option maxRecDepth 20000 in
theorem ggL_law_X2_part : GoodIn wsL_law wsX2_part := goodIn_r _ [312, 14, 19, 75, 76, 190, 89, 45, 90, 23, 77, 78, 2, 79, 259, 119, 120, 22, 121, 47, 264, 265, 266, 267, 24, 17, 191, 192, 193, 194, 195, 111, 112, 113, 37, 114, 115, 116, 117, 144, 145, 146, 147, 95, 42, 148, 149, 150, 151, 152, 153, 154, 155, 268, 269, 270, 271, 272, 48, 49, 50, 51, 273, 274, 275, 276, 277, 278, 279, 280, 281, 282, 283, 284, 205, 206, 207, 208, 80, 81, 82, 83, 84, 85, 86, 87, 88, 91, 92, 93, 94, 96, 97, 98, 99, 100, 101, 102, 16, 103, 32, 104, 105, 106, 107, 108, 109, 110, 118, 196, 458, 459, 460, 461, 462, 463, 464, 472, 473, 474, 475, 476] (by decide +kernel) (by decide +kernel)
set_option maxRecDepth 20000 in
theorem gL_law_X2_part : GoodIn wsL_law (wsV RL 35 RX2 yX2_part wsX2_part) := goodIn_app (goodIn_of _ (by decide +kernel)) ggL_law_X2_part
set_option maxRecDepth 20000 in
theorem ggL_law_X2_scale : GoodIn wsL_law wsX2_scale := goodIn_r _ [320, 14, 18, 77, 78, 2, 79, 256, 257, 258, 260, 261, 262, 263, 97, 98, 99, 264, 265, 266, 267, 23, 24, 17, 19, 75, 76, 191, 192, 193, 194, 195, 111, 112, 22, 113, 37, 114, 115, 116, 117, 47, 144, 145, 146, 147, 95, 42, 148, 149, 150, 151, 152, 153, 154, 155, 268, 269, 270, 271, 272, 48, 49, 50, 51, 273, 274, 275, 276, 277, 278, 279, 280, 281, 282, 283, 284, 205, 206, 207, 208, 285, 286, 287, 288, 259, 119, 120, 121, 156, 157, 158, 159, 88, 89, 45, 90, 197, 198, 199, 200, 289, 290, 291, 292, 293, 92, 93, 94, 96, 80, 81, 82, 83, 84, 85, 86, 87, 91, 100, 101, 102, 16, 103, 32, 104, 105, 106, 107, 108, 109, 110, 118, 458, 459, 460, 461, 462, 463, 464, 472, 473, 474, 475, 476] (by decide +kernel) (by decide +kernel)
set_option maxRecDepth 20000 in
theorem gL_law_X2_scale : GoodIn wsL_law (wsV RL 39 RX2 yX2_scale wsX2_scale) := goodIn_app (goodIn_of _ (by decide +kernel)) ggL_law_X2_scale
set_option maxRecDepth 20000 in
theorem ggL_law_X2_round : GoodIn wsL_law wsX2_round := goodIn_r _ [336, 14, 19, 17, 77, 78, 2, 79, 256, 257, 258, 84, 85, 86, 22, 87, 47, 88, 89, 45, 90, 91, 92, 93, 94, 37, 95, 96, 100, 101, 102, 16, 103, 32, 104, 105, 106, 107, 108, 109, 110, 111, 112, 113, 114, 115, 116, 117, 118, 119, 120, 121, 337, 338, 339, 340, 18, 76, 264, 265, 266, 267, 23, 24, 75, 191, 192, 193, 194, 195, 144, 145, 146, 147, 42, 148, 149, 150, 151, 152, 153, 154, 155, 268, 269, 270, 271, 272, 48, 49, 50, 51, 273, 274, 275, 276, 277, 278, 279, 280, 281, 282, 283, 284, 205, 206, 207, 208, 285, 286, 287, 288, 259, 156, 157, 158, 159, 197, 198, 199, 200, 289, 290, 291, 292, 293, 80, 81, 82, 83, 97, 98, 99, 458, 459, 460, 461, 462, 463, 464, 472, 473, 474, 475, 476] (by decide +kernel) (by decide +kernel)
set_option maxRecDepth 20000 in
theorem gL_law_X2_round : GoodIn wsL_law (wsV RL 43 RX2 yX2_round wsX2_round) := goodIn_app (goodIn_of _ (by decide +kernel)) ggL_law_X2_round
set_option maxRecDepth 20000 in
theorem ggL_law_X2_turn : GoodIn wsL_law wsX2_turn := goodIn_r _ [348, 17, 14, 75, 77, 78, 2, 79, 100, 101, 102, 16, 103, 32, 104, 105, 106, 107, 108, 109, 110, 111, 112, 22, 113, 37, 114, 115, 116, 117, 47, 118, 119, 120, 121, 349, 350, 351, 352, 19, 76, 259, 353, 354, 355, 356, 91, 92, 93, 94, 95, 96, 337, 338, 339, 340, 18, 264, 265, 266, 267, 23, 24, 191, 192, 193, 194, 195, 144, 145, 146, 147, 42, 148, 149, 150, 151, 152, 153, 154, 155, 268, 269, 270, 271, 272, 48, 49, 50, 51, 273, 274, 275, 276, 277, 278, 279, 280, 281, 282, 283, 284, 205, 206, 207, 208, 80, 81, 82, 83, 84, 85, 86, 87, 88, 89, 45, 90, 97, 98, 99, 458, 459, 460, 461, 462, 463, 464, 472, 473, 474, 475, 476] (by decide +kernel) (by decide +kernel)
set_option maxRecDepth 20000 in
theorem gL_law_X2_turn : GoodIn wsL_law (wsV RL 47 RX2 yX2_turn wsX2_turn) := goodIn_app (goodIn_of _ (by decide +kernel)) ggL_law_X2_turn
set_option maxRecDepth 20000 in
theorem ggL_law_X2_move : GoodIn wsL_law wsX2_move := goodIn_r _ [364, 17, 14, 76, 19, 77, 78, 2, 79, 100, 101, 102, 16, 103, 32, 104, 105, 106, 107, 108, 109, 110, 111, 112, 22, 113, 37, 114, 115, 116, 117, 47, 118, 119, 120, 121, 144, 145, 146, 147, 95, 42, 148, 149, 150, 151, 152, 153, 154, 155, 80, 81, 82, 83, 84, 85, 86, 87, 88, 89, 45, 90, 91, 92, 93, 94, 96, 97, 98, 99, 458, 459, 460, 461, 462, 463, 464, 472, 473, 474, 475, 476] (by decide +kernel) (by decide +kernel)
set_option maxRecDepth 20000 in
theorem gL_law_X2_move : GoodIn wsL_law (wsV RL 52 RX2 yX2_move wsX2_move) := goodIn_app (goodIn_of _ (by decide +kernel)) ggL_law_X2_move
set_option maxRecDepth 20000 in
theorem ggL_law_X2_power : GoodIn wsL_law wsX2_power := goodIn_r _ [372, 14, 19, 17, 18, 77, 78, 2, 79, 84, 85, 86, 22, 87, 47, 88, 89, 45, 90, 91, 92, 93, 94, 37, 95, 96, 100, 101, 102, 16, 103, 32, 104, 105, 106, 107, 108, 109, 110, 111, 112, 113, 114, 115, 116, 117, 118, 119, 120, 121, 209, 210, 211, 212, 23, 75, 76, 213, 214, 215, 216, 42, 48, 49, 50, 51, 205, 206, 207, 208, 196, 80, 81, 82, 83, 97, 98, 99, 458, 459, 460, 461, 462, 463, 464, 472, 473, 474, 475, 476] (by decide +kernel) (by decide +kernel)
set_option maxRecDepth 20000 in
theorem gL_law_X2_power : GoodIn wsL_law (wsV RL 56 RX2 yX2_power wsX2_power) := goodIn_app (goodIn_of _ (by decide +kernel)) ggL_law_X2_power
set_option maxRecDepth 20000 in
theorem ggL_law_X2_compare : GoodIn wsL_law wsX2_compare := goodIn_r _ [384, 14, 77, 78, 2, 79, 217, 218, 219, 220, 75, 24, 23, 221, 222, 223, 16, 224, 32, 104, 118, 119, 120, 22, 121, 47, 191, 192, 193, 194, 76, 19, 195, 111, 112, 113, 37, 114, 115, 116, 117, 144, 145, 146, 147, 95, 42, 148, 149, 150, 151, 152, 153, 154, 155, 197, 198, 199, 200, 458, 459, 460, 461, 462, 463, 464, 472, 473, 474, 475, 476] (by decide +kernel) (by decide +kernel)
set_option maxRecDepth 20000 in
theorem gL_law_X2_compare : GoodIn wsL_law (wsV RL 60 RX2 yX2_compare wsX2_compare) := goodIn_app (goodIn_of _ (by decide +kernel)) ggL_law_X2_compare
set_option maxRecDepth 20000 in
theorem ggL_law_X2_same : GoodIn wsL_law wsX2_same := goodIn_r _ [392, 14, 76, 75, 19, 77, 78, 2, 79, 197, 198, 199, 22, 200, 47, 37, 458, 459, 460, 461, 462, 463, 464, 472, 473, 474, 475, 476] (by decide +kernel) (by decide +kernel)
set_option maxRecDepth 20000 in
theorem gL_law_X2_same : GoodIn wsL_law (wsV RL 65 RX2 yX2_same wsX2_same) := goodIn_app (goodIn_of _ (by decide +kernel)) ggL_law_X2_same
set_option maxRecDepth 20000 in
theorem ggL_law_X2_look : GoodIn wsL_law wsX2_look := goodIn_r _ [400, 14, 19, 76, 77, 78, 2, 79, 221, 222, 223, 16, 224, 32, 104, 118, 119, 120, 22, 121, 47, 84, 85, 86, 87, 88, 89, 45, 90, 91, 92, 93, 94, 37, 95, 96, 458, 459, 460, 461, 462, 463, 464, 472, 473, 474, 475, 476] (by decide +kernel) (by decide +kernel)
set_option maxRecDepth 20000 in
theorem gL_law_X2_look : GoodIn wsL_law (wsV RL 70 RX2 yX2_look wsX2_look) := goodIn_app (goodIn_of _ (by decide +kernel)) ggL_law_X2_look
set_option maxRecDepth 20000 in
theorem ggL_law_X2_digit : GoodIn wsL_law wsX2_digit := goodIn_r _ [408, 14, 19, 77, 78, 2, 79, 84, 85, 86, 22, 87, 47, 88, 89, 45, 90, 91, 92, 93, 94, 37, 95, 96, 293, 458, 459, 460, 461, 462, 463, 464, 472, 473, 474, 475, 476] (by decide +kernel) (by decide +kernel)
set_option maxRecDepth 20000 in
theorem gL_law_X2_digit : GoodIn wsL_law (wsV RL 74 RX2 yX2_digit wsX2_digit) := goodIn_app (goodIn_of _ (by decide +kernel)) ggL_law_X2_digit
set_option maxRecDepth 20000 in
theorem ggL_law_X2_whole : GoodIn wsL_law wsX2_whole := goodIn_r _ [416, 14, 18, 17, 19, 75, 77, 78, 2, 79, 264, 265, 266, 267, 23, 24, 76, 191, 192, 193, 194, 195, 111, 112, 22, 113, 37, 114, 115, 116, 117, 47, 144, 145, 146, 147, 95, 42, 148, 149, 150, 151, 152, 153, 154, 155, 268, 269, 270, 271, 272, 48, 49, 50, 51, 273, 274, 275, 276, 277, 278, 279, 280, 281, 282, 283, 284, 205, 206, 207, 208, 417, 418, 419, 420, 458, 459, 460, 461, 462, 463, 464, 472, 473, 474, 475, 476] (by decide +kernel) (by decide +kernel)
set_option maxRecDepth 20000 in
theorem gL_law_X2_whole : GoodIn wsL_law (wsV RL 78 RX2 yX2_whole wsX2_whole) := goodIn_app (goodIn_of _ (by decide +kernel)) ggL_law_X2_whole
set_option maxRecDepth 20000 in
theorem ggL_law_X2_write : GoodIn wsL_law wsX2_write := goodIn_r _ [428, 14, 27, 75, 19, 76, 77, 78, 2, 79, 429, 430, 431, 432, 26, 433, 434, 435, 436, 190, 89, 45, 90, 84, 85, 86, 22, 87, 47, 88, 91, 92, 93, 94, 37, 95, 96, 293, 259, 119, 120, 121, 437, 438, 439, 440, 458, 459, 460, 461, 462, 463, 464, 472, 473, 474, 475, 476] (by decide +kernel) (by decide +kernel)
set_option maxRecDepth 20000 in
theorem gL_law_X2_write : GoodIn wsL_law (wsV RL 83 RX2 yX2_write wsX2_write) := goodIn_app (goodIn_of _ (by decide +kernel)) ggL_law_X2_write
set_option maxRecDepth 20000 in
theorem ggL_law_X2_octet : GoodIn wsL_law wsX2_octet := goodIn_r _ [453, 27, 26, 458, 459, 460, 461, 462, 463, 464] (by decide +kernel) (by decide +kernel)
set_option maxRecDepth 20000 in
theorem gL_law_X2_octet : GoodIn wsL_law (wsV RL 88 RX2 yX2_octet wsX2_octet) := goodIn_app (goodIn_of _ (by decide +kernel)) ggL_law_X2_octet
