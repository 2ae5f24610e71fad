/-! THE LAW: its callees' words. -/
set_option maxRecDepth 20000 in
theorem ggL_law_X2_init : GoodIn wsL_law wsX2_init := goodIn_r _ [9, 10, 11, 12, 13, 14, 434, 435, 436, 437, 438, 439] (by decide +kernel) (by decide +kernel)
theorem gL_law_X2_init : GoodIn wsL_law (wsX2_init) := ggL_law_X2_init
set_option maxRecDepth 20000 in
theorem ggL_law_X3_init : GoodIn wsL_law wsX3_init := goodIn_r _ [17, 18, 11, 12, 19, 20, 21, 22, 23, 24, 25, 26, 27, 28, 29, 30, 31, 32, 33, 440, 441, 442, 443, 444, 445, 446, 447, 448, 449, 450, 451, 452, 453, 454, 455, 456] (by decide +kernel) (by decide +kernel)
theorem gL_law_X3_init : GoodIn wsL_law (wsX3_init) := ggL_law_X3_init
set_option maxRecDepth 20000 in
theorem ggL_law_L_order : GoodIn wsL_law wsL_order := goodIn_ca (goodIn_ca (goodIn_r _ [37, 38, 39, 40, 41, 42, 2, 43, 44, 45, 46, 47, 14, 13, 48, 49, 50, 51, 52, 53, 54, 55, 56, 57, 58, 11, 12, 59, 60, 61, 62, 434, 435, 436, 437, 438, 439, 457, 458, 459, 460, 461, 462, 463, 464, 465, 466, 467, 468] (by decide +kernel) (by decide +kernel)) (goodIn_sub (fun _ h => List.mem_append_left _ (List.mem_append_left _ (List.mem_append_right _ h))) (by decide +kernel))) (goodIn_sub (fun _ h => List.mem_append_left _ (List.mem_append_right _ h)) (by decide +kernel))
theorem gL_law_L_order : GoodIn wsL_law (va_wsS RL 71 yL_order wsL_order) := goodIn_app (goodIn_of _ (by decide +kernel)) ggL_law_L_order
set_option maxRecDepth 20000 in
theorem ggL_law_X3_order : GoodIn wsL_law wsX3_order := goodIn_r _ [66, 67, 68, 69, 20, 21, 70, 71, 5, 72, 440, 441, 442, 443, 444, 445, 446, 447, 448, 449, 450, 451, 452, 453, 454, 455, 456] (by decide +kernel) (by decide +kernel)
theorem gL_law_X3_order : GoodIn wsL_law (wsV RL 76 RX3 yX3_order wsX3_order) := goodIn_app (goodIn_of _ (by decide +kernel)) ggL_law_X3_order
set_option maxRecDepth 20000 in
theorem ggL_law_X3_thrown : GoodIn wsL_law wsX3_thrown := goodIn_r _ [76, 69, 440, 441, 442, 443, 444, 445, 446, 447, 448, 449, 450, 451, 452, 453, 454, 455, 456] (by decide +kernel) (by decide +kernel)
theorem gL_law_X3_thrown : GoodIn wsL_law (wsV RL 77 RX3 yX3_thrown wsX3_thrown) := goodIn_app (goodIn_of _ (by decide +kernel)) ggL_law_X3_thrown
set_option maxRecDepth 20000 in
theorem ggL_law_L_add : GoodIn wsL_law wsL_add := goodIn_ca (goodIn_ca (goodIn_ca (goodIn_r _ [79, 80, 38, 39, 81, 82, 83, 2, 84, 44, 45, 85, 86, 87, 88, 89, 90, 91, 92, 93, 94, 95, 14, 50, 51, 52, 53, 54, 96, 97, 98, 49, 99, 100, 60, 101, 102, 103, 104, 11, 12, 105, 106, 107, 108, 109, 110, 111, 457, 458, 459, 460, 461, 462, 463, 464, 465, 466, 467, 468, 469, 470, 471, 472, 473, 434, 435, 436, 437, 438, 439] (by decide +kernel) (by decide +kernel)) (goodIn_sub (fun _ h => List.mem_append_left _ (List.mem_append_left _ (List.mem_append_right _ h))) (by decide +kernel))) (goodIn_sub (fun _ h => List.mem_append_right _ h) (by decide +kernel))) (goodIn_sub (fun _ h => List.mem_append_left _ (List.mem_append_right _ h)) (by decide +kernel))
theorem gL_law_L_add : GoodIn wsL_law (va_wsS RL 81 yL_add wsL_add) := goodIn_app (goodIn_of _ (by decide +kernel)) ggL_law_L_add
set_option maxRecDepth 20000 in
theorem ggL_law_X3_add : GoodIn wsL_law wsX3_add := goodIn_r _ [115, 116, 23, 22, 28, 29, 117, 118, 119, 5, 120, 68, 69, 70, 71, 72, 121, 122, 123, 124, 440, 441, 442, 443, 444, 445, 446, 447, 448, 449, 450, 451, 452, 453, 454, 455, 456] (by decide +kernel) (by decide +kernel)
theorem gL_law_X3_add : GoodIn wsL_law (wsV RL 84 RX3 yX3_add wsX3_add) := goodIn_app (goodIn_of _ (by decide +kernel)) ggL_law_X3_add
set_option maxRecDepth 20000 in
theorem ggL_law_L_pay : GoodIn wsL_law wsL_pay := goodIn_ca (goodIn_ca (goodIn_ca (goodIn_r _ [127, 80, 38, 39, 128, 129, 130, 2, 131, 44, 45, 46, 86, 132, 133, 134, 90, 91, 92, 93, 94, 95, 14, 50, 51, 52, 53, 54, 135, 136, 137, 49, 138, 139, 140, 141, 142, 143, 144, 145, 146, 147, 148, 149, 150, 151, 60, 152, 153, 62, 61, 457, 458, 459, 460, 461, 462, 463, 464, 465, 466, 467, 468, 434, 435, 436, 437, 438, 439, 469, 470, 471, 472, 473] (by decide +kernel) (by decide +kernel)) (goodIn_sub (fun _ h => List.mem_append_left _ (List.mem_append_left _ (List.mem_append_right _ h))) (by decide +kernel))) (goodIn_sub (fun _ h => List.mem_append_right _ h) (by decide +kernel))) (goodIn_sub (fun _ h => List.mem_append_left _ (List.mem_append_right _ h)) (by decide +kernel))
theorem gL_law_L_pay : GoodIn wsL_law (va_wsS RL 85 yL_pay wsL_pay) := goodIn_app (goodIn_of _ (by decide +kernel)) ggL_law_L_pay
set_option maxRecDepth 20000 in
theorem ggL_law_X3_pay : GoodIn wsL_law wsX3_pay := goodIn_r _ [157, 67, 23, 22, 27, 158, 117, 118, 119, 5, 120, 68, 69, 70, 71, 72, 121, 122, 123, 124, 159, 160, 161, 162, 30, 28, 21, 20, 163, 164, 165, 440, 441, 442, 443, 444, 445, 446, 447, 448, 449, 450, 451, 452, 453, 454, 455, 456] (by decide +kernel) (by decide +kernel)
theorem gL_law_X3_pay : GoodIn wsL_law (wsV RL 87 RX3 yX3_pay wsX3_pay) := goodIn_app (goodIn_of _ (by decide +kernel)) ggL_law_X3_pay
set_option maxRecDepth 20000 in
theorem ggL_law_X2_orders : GoodIn wsL_law wsX2_orders := goodIn_r _ [169, 47, 434, 435, 436, 437, 438, 439] (by decide +kernel) (by decide +kernel)
theorem gL_law_X2_orders : GoodIn wsL_law (wsV RL 88 RX2 yX2_orders wsX2_orders) := goodIn_app (goodIn_of _ (by decide +kernel)) ggL_law_X2_orders
set_option maxRecDepth 20000 in
theorem ggL_law_X3_orders : GoodIn wsL_law wsX3_orders := goodIn_r _ [173, 69, 68, 440, 441, 442, 443, 444, 445, 446, 447, 448, 449, 450, 451, 452, 453, 454, 455, 456] (by decide +kernel) (by decide +kernel)
theorem gL_law_X3_orders : GoodIn wsL_law (wsV RL 91 RX3 yX3_orders wsX3_orders) := goodIn_app (goodIn_of _ (by decide +kernel)) ggL_law_X3_orders
set_option maxRecDepth 20000 in
theorem ggL_law_L_mayComeBack : GoodIn wsL_law wsL_mayComeBack := goodIn_ca (goodIn_ca (goodIn_r _ [176, 80, 38, 177, 178, 179, 2, 180, 90, 91, 92, 93, 94, 95, 14, 181, 182, 183, 184, 50, 51, 52, 53, 54, 185, 186, 187, 188, 86, 189, 133, 190, 191, 192, 193, 89, 194, 107, 434, 435, 436, 437, 438, 439, 457, 458, 459, 460, 461, 462, 463, 464, 465, 466, 467, 468, 469, 470, 471, 472, 473] (by decide +kernel) (by decide +kernel)) (goodIn_sub (fun _ h => List.mem_append_right _ h) (by decide +kernel))) (goodIn_sub (fun _ h => List.mem_append_left _ (List.mem_append_right _ h)) (by decide +kernel))
theorem gL_law_L_mayComeBack : GoodIn wsL_law (va_wsS RL 92 yL_mayComeBack wsL_mayComeBack) := goodIn_app (goodIn_of _ (by decide +kernel)) ggL_law_L_mayComeBack
set_option maxRecDepth 20000 in
theorem ggL_law_X3_mayComeBack : GoodIn wsL_law wsX3_mayComeBack := goodIn_r _ [198, 199, 200, 201, 5, 202, 69, 203, 204, 205, 206, 68, 22, 70, 71, 72, 207, 208, 209, 210, 158, 23, 29, 30, 440, 441, 442, 443, 444, 445, 446, 447, 448, 449, 450, 451, 452, 453, 454, 455, 456] (by decide +kernel) (by decide +kernel)
theorem gL_law_X3_mayComeBack : GoodIn wsL_law (wsV RL 94 RX3 yX3_mayComeBack wsX3_mayComeBack) := goodIn_app (goodIn_of _ (by decide +kernel)) ggL_law_X3_mayComeBack
set_option maxRecDepth 20000 in
theorem ggL_law_L_ask : GoodIn wsL_law wsL_ask := goodIn_ca (goodIn_ca (goodIn_ca (goodIn_r _ [213, 80, 38, 39, 214, 215, 216, 2, 217, 218, 219, 220, 221, 44, 45, 189, 222, 133, 223, 90, 91, 92, 93, 94, 95, 14, 181, 182, 183, 184, 50, 51, 52, 53, 54, 185, 186, 187, 188, 86, 190, 191, 192, 193, 89, 194, 107, 469, 470, 471, 472, 473, 434, 435, 436, 437, 438, 439, 457, 458, 459, 460, 461, 462, 463, 464, 465, 466, 467, 468] (by decide +kernel) (by decide +kernel)) (goodIn_sub (fun _ h => List.mem_append_left _ (List.mem_append_left _ (List.mem_append_right _ h))) (by decide +kernel))) (goodIn_sub (fun _ h => List.mem_append_right _ h) (by decide +kernel))) (goodIn_sub (fun _ h => List.mem_append_left _ (List.mem_append_right _ h)) (by decide +kernel))
theorem gL_law_L_ask : GoodIn wsL_law (va_wsS RL 95 yL_ask wsL_ask) := goodIn_app (goodIn_of _ (by decide +kernel)) ggL_law_L_ask
set_option maxRecDepth 20000 in
theorem ggL_law_X3_ask : GoodIn wsL_law wsX3_ask := goodIn_r _ [227, 228, 229, 230, 5, 231, 30, 31, 32, 158, 199, 200, 201, 202, 69, 203, 204, 205, 206, 68, 22, 70, 71, 72, 207, 208, 209, 210, 23, 29, 121, 122, 123, 124, 440, 441, 442, 443, 444, 445, 446, 447, 448, 449, 450, 451, 452, 453, 454, 455, 456] (by decide +kernel) (by decide +kernel)
theorem gL_law_X3_ask : GoodIn wsL_law (wsV RL 97 RX3 yX3_ask wsX3_ask) := goodIn_app (goodIn_of _ (by decide +kernel)) ggL_law_X3_ask
set_option maxRecDepth 20000 in
theorem ggL_law_L_exchange : GoodIn wsL_law wsL_exchange := goodIn_ca (goodIn_ca (goodIn_ca (goodIn_r _ [234, 80, 38, 39, 235, 236, 237, 2, 238, 218, 219, 220, 221, 44, 45, 189, 222, 133, 223, 90, 91, 92, 93, 94, 95, 14, 181, 182, 183, 184, 50, 51, 52, 53, 54, 185, 186, 187, 188, 86, 190, 191, 192, 193, 89, 194, 107, 469, 470, 471, 472, 473, 434, 435, 436, 437, 438, 439, 457, 458, 459, 460, 461, 462, 463, 464, 465, 466, 467, 468] (by decide +kernel) (by decide +kernel)) (goodIn_sub (fun _ h => List.mem_append_left _ (List.mem_append_left _ (List.mem_append_right _ h))) (by decide +kernel))) (goodIn_sub (fun _ h => List.mem_append_right _ h) (by decide +kernel))) (goodIn_sub (fun _ h => List.mem_append_left _ (List.mem_append_right _ h)) (by decide +kernel))
theorem gL_law_L_exchange : GoodIn wsL_law (va_wsS RL 98 yL_exchange wsL_exchange) := goodIn_app (goodIn_of _ (by decide +kernel)) ggL_law_L_exchange
set_option maxRecDepth 20000 in
theorem ggL_law_X3_exchange : GoodIn wsL_law wsX3_exchange := goodIn_r _ [242, 228, 229, 230, 5, 231, 30, 31, 32, 158, 199, 200, 201, 202, 69, 203, 204, 205, 206, 68, 22, 70, 71, 72, 207, 208, 209, 210, 23, 29, 121, 122, 123, 124, 440, 441, 442, 443, 444, 445, 446, 447, 448, 449, 450, 451, 452, 453, 454, 455, 456] (by decide +kernel) (by decide +kernel)
theorem gL_law_X3_exchange : GoodIn wsL_law (wsV RL 100 RX3 yX3_exchange wsX3_exchange) := goodIn_app (goodIn_of _ (by decide +kernel)) ggL_law_X3_exchange
set_option maxRecDepth 20000 in
theorem ggL_law_L_grade : GoodIn wsL_law wsL_grade := goodIn_ca (goodIn_ca (goodIn_ca (goodIn_r _ [245, 80, 38, 39, 246, 247, 248, 2, 249, 44, 45, 250, 222, 189, 90, 91, 92, 93, 94, 95, 14, 181, 182, 183, 184, 50, 51, 52, 53, 54, 251, 252, 253, 89, 254, 105, 255, 256, 257, 258, 259, 260, 261, 262, 263, 107, 106, 264, 265, 266, 267, 268, 269, 270, 271, 272, 273, 49, 274, 275, 276, 141, 277, 145, 139, 140, 142, 144, 143, 278, 279, 280, 281, 282, 283, 284, 285, 286, 287, 288, 148, 149, 150, 151, 60, 152, 153, 62, 61, 457, 458, 459, 460, 461, 462, 463, 464, 465, 466, 467, 468, 469, 470, 471, 472, 473, 434, 435, 436, 437, 438, 439] (by decide +kernel) (by decide +kernel)) (goodIn_sub (fun _ h => List.mem_append_left _ (List.mem_append_left _ (List.mem_append_right _ h))) (by decide +kernel))) (goodIn_sub (fun _ h => List.mem_append_right _ h) (by decide +kernel))) (goodIn_sub (fun _ h => List.mem_append_left _ (List.mem_append_right _ h)) (by decide +kernel))
theorem gL_law_L_grade : GoodIn wsL_law (va_wsS RL 101 yL_grade wsL_grade) := goodIn_app (goodIn_of _ (by decide +kernel)) ggL_law_L_grade
set_option maxRecDepth 20000 in
theorem ggL_law_X3_grade : GoodIn wsL_law wsX3_grade := goodIn_r _ [292, 30, 24, 31, 33, 27, 26, 203, 204, 205, 5, 206, 68, 22, 69, 70, 71, 72, 121, 122, 123, 124, 293, 294, 295, 296, 28, 29, 297, 298, 299, 300, 301, 302, 303, 304, 25, 159, 160, 161, 162, 21, 20, 163, 164, 165, 440, 441, 442, 443, 444, 445, 446, 447, 448, 449, 450, 451, 452, 453, 454, 455, 456] (by decide +kernel) (by decide +kernel)
theorem gL_law_X3_grade : GoodIn wsL_law (wsV RL 103 RX3 yX3_grade wsX3_grade) := goodIn_app (goodIn_of _ (by decide +kernel)) ggL_law_X3_grade
set_option maxRecDepth 20000 in
theorem ggL_law_L_state : GoodIn wsL_law wsL_state := goodIn_ca (goodIn_r _ [307, 80, 308, 309, 310, 2, 311, 189, 90, 91, 92, 93, 94, 95, 14, 181, 182, 183, 184, 469, 470, 471, 472, 473, 434, 435, 436, 437, 438, 439, 457, 458, 459, 460, 461, 462, 463, 464, 465, 466, 467, 468] (by decide +kernel) (by decide +kernel)) (goodIn_sub (fun _ h => List.mem_append_right _ h) (by decide +kernel))
theorem gL_law_L_state : GoodIn wsL_law (va_wsS RL 104 yL_state wsL_state) := goodIn_app (goodIn_of _ (by decide +kernel)) ggL_law_L_state
set_option maxRecDepth 20000 in
theorem ggL_law_X3_state : GoodIn wsL_law wsX3_state := goodIn_r _ [315, 30, 203, 204, 205, 5, 206, 68, 22, 69, 70, 71, 72, 440, 441, 442, 443, 444, 445, 446, 447, 448, 449, 450, 451, 452, 453, 454, 455, 456] (by decide +kernel) (by decide +kernel)
theorem gL_law_X3_state : GoodIn wsL_law (wsV RL 106 RX3 yX3_state wsX3_state) := goodIn_app (goodIn_of _ (by decide +kernel)) ggL_law_X3_state
set_option maxRecDepth 20000 in
theorem ggL_law_L_price : GoodIn wsL_law wsL_price := goodIn_ca (goodIn_r _ [318, 80, 319, 320, 321, 2, 322, 90, 91, 92, 93, 94, 95, 14, 323, 149, 150, 49, 151, 60, 152, 153, 62, 61, 434, 435, 436, 437, 438, 439, 457, 458, 459, 460, 461, 462, 463, 464, 465, 466, 467, 468, 469, 470, 471, 472, 473] (by decide +kernel) (by decide +kernel)) (goodIn_sub (fun _ h => List.mem_append_right _ h) (by decide +kernel))
theorem gL_law_L_price : GoodIn wsL_law (va_wsS RL 107 yL_price wsL_price) := goodIn_app (goodIn_of _ (by decide +kernel)) ggL_law_L_price
set_option maxRecDepth 20000 in
theorem ggL_law_X3_price : GoodIn wsL_law wsX3_price := goodIn_r _ [327, 117, 118, 119, 5, 120, 68, 69, 70, 71, 72, 159, 160, 161, 162, 22, 30, 28, 21, 20, 440, 441, 442, 443, 444, 445, 446, 447, 448, 449, 450, 451, 452, 453, 454, 455, 456] (by decide +kernel) (by decide +kernel)
theorem gL_law_X3_price : GoodIn wsL_law (wsV RL 110 RX3 yX3_price wsX3_price) := goodIn_app (goodIn_of _ (by decide +kernel)) ggL_law_X3_price
set_option maxRecDepth 20000 in
theorem ggL_law_L_fees : GoodIn wsL_law wsL_fees := goodIn_ca (goodIn_r _ [330, 80, 331, 332, 333, 2, 334, 250, 90, 91, 92, 93, 94, 95, 14, 457, 458, 459, 460, 461, 462, 463, 464, 465, 466, 467, 468, 434, 435, 436, 437, 438, 439] (by decide +kernel) (by decide +kernel)) (goodIn_sub (fun _ h => List.mem_append_right _ h) (by decide +kernel))
theorem gL_law_L_fees : GoodIn wsL_law (va_wsS RL 111 yL_fees wsL_fees) := goodIn_app (goodIn_of _ (by decide +kernel)) ggL_law_L_fees
set_option maxRecDepth 20000 in
theorem ggL_law_X3_fees : GoodIn wsL_law wsX3_fees := goodIn_r _ [338, 24, 117, 118, 119, 5, 120, 68, 69, 70, 71, 72, 440, 441, 442, 443, 444, 445, 446, 447, 448, 449, 450, 451, 452, 453, 454, 455, 456] (by decide +kernel) (by decide +kernel)
theorem gL_law_X3_fees : GoodIn wsL_law (wsV RL 113 RX3 yX3_fees wsX3_fees) := goodIn_app (goodIn_of _ (by decide +kernel)) ggL_law_X3_fees
set_option maxRecDepth 20000 in
theorem ggL_law_L_charges : GoodIn wsL_law wsL_charges := goodIn_ca (goodIn_r _ [341, 80, 342, 343, 344, 2, 345, 346, 90, 91, 92, 93, 94, 95, 14, 457, 458, 459, 460, 461, 462, 463, 464, 465, 466, 467, 468, 434, 435, 436, 437, 438, 439] (by decide +kernel) (by decide +kernel)) (goodIn_sub (fun _ h => List.mem_append_right _ h) (by decide +kernel))
theorem gL_law_L_charges : GoodIn wsL_law (va_wsS RL 114 yL_charges wsL_charges) := goodIn_app (goodIn_of _ (by decide +kernel)) ggL_law_L_charges
set_option maxRecDepth 20000 in
theorem ggL_law_X3_charges : GoodIn wsL_law wsX3_charges := goodIn_r _ [350, 25, 117, 118, 119, 5, 120, 68, 69, 70, 71, 72, 440, 441, 442, 443, 444, 445, 446, 447, 448, 449, 450, 451, 452, 453, 454, 455, 456] (by decide +kernel) (by decide +kernel)
theorem gL_law_X3_charges : GoodIn wsL_law (wsV RL 116 RX3 yX3_charges wsX3_charges) := goodIn_app (goodIn_of _ (by decide +kernel)) ggL_law_X3_charges
set_option maxRecDepth 20000 in
theorem ggL_law_L_taken : GoodIn wsL_law wsL_taken := goodIn_ca (goodIn_ca (goodIn_r _ [353, 80, 38, 354, 355, 356, 2, 357, 134, 358, 359, 90, 91, 92, 93, 94, 95, 14, 50, 51, 52, 53, 54, 457, 458, 459, 460, 461, 462, 463, 464, 465, 466, 467, 468, 434, 435, 436, 437, 438, 439] (by decide +kernel) (by decide +kernel)) (goodIn_sub (fun _ h => List.mem_append_right _ h) (by decide +kernel))) (goodIn_sub (fun _ h => List.mem_append_left _ (List.mem_append_right _ h)) (by decide +kernel))
theorem gL_law_L_taken : GoodIn wsL_law (va_wsS RL 117 yL_taken wsL_taken) := goodIn_app (goodIn_of _ (by decide +kernel)) ggL_law_L_taken
set_option maxRecDepth 20000 in
theorem ggL_law_X3_taken : GoodIn wsL_law wsX3_taken := goodIn_r _ [363, 27, 117, 118, 119, 5, 120, 68, 69, 70, 71, 72, 121, 122, 123, 124, 440, 441, 442, 443, 444, 445, 446, 447, 448, 449, 450, 451, 452, 453, 454, 455, 456] (by decide +kernel) (by decide +kernel)
theorem gL_law_X3_taken : GoodIn wsL_law (wsV RL 119 RX3 yX3_taken wsX3_taken) := goodIn_app (goodIn_of _ (by decide +kernel)) ggL_law_X3_taken
set_option maxRecDepth 20000 in
theorem ggL_law_L_refunded : GoodIn wsL_law wsL_refunded := goodIn_ca (goodIn_r _ [366, 80, 367, 368, 369, 2, 370, 371, 90, 91, 92, 93, 94, 95, 14, 457, 458, 459, 460, 461, 462, 463, 464, 465, 466, 467, 468, 434, 435, 436, 437, 438, 439] (by decide +kernel) (by decide +kernel)) (goodIn_sub (fun _ h => List.mem_append_right _ h) (by decide +kernel))
theorem gL_law_L_refunded : GoodIn wsL_law (va_wsS RL 120 yL_refunded wsL_refunded) := goodIn_app (goodIn_of _ (by decide +kernel)) ggL_law_L_refunded
set_option maxRecDepth 20000 in
theorem ggL_law_X3_refunded : GoodIn wsL_law wsX3_refunded := goodIn_r _ [375, 26, 117, 118, 119, 5, 120, 68, 69, 70, 71, 72, 440, 441, 442, 443, 444, 445, 446, 447, 448, 449, 450, 451, 452, 453, 454, 455, 456] (by decide +kernel) (by decide +kernel)
theorem gL_law_X3_refunded : GoodIn wsL_law (wsV RL 122 RX3 yX3_refunded wsX3_refunded) := goodIn_app (goodIn_of _ (by decide +kernel)) ggL_law_X3_refunded
set_option maxRecDepth 20000 in
theorem ggL_law_L_isShortBy : GoodIn wsL_law wsL_isShortBy := goodIn_ca (goodIn_r _ [378, 80, 379, 380, 381, 2, 382, 86, 383, 276, 141, 277, 90, 91, 92, 93, 94, 95, 14, 384, 284, 285, 49, 286, 287, 288, 148, 149, 150, 151, 60, 152, 153, 62, 61, 385, 280, 281, 282, 145, 144, 143, 457, 458, 459, 460, 461, 462, 463, 464, 465, 466, 467, 468, 434, 435, 436, 437, 438, 439, 469, 470, 471, 472, 473] (by decide +kernel) (by decide +kernel)) (goodIn_sub (fun _ h => List.mem_append_right _ h) (by decide +kernel))
theorem gL_law_L_isShortBy : GoodIn wsL_law (va_wsS RL 123 yL_isShortBy wsL_isShortBy) := goodIn_app (goodIn_of _ (by decide +kernel)) ggL_law_L_isShortBy
set_option maxRecDepth 20000 in
theorem ggL_law_X3_isShortBy : GoodIn wsL_law wsX3_isShortBy := goodIn_r _ [389, 23, 117, 118, 119, 5, 120, 68, 69, 70, 71, 72, 301, 302, 303, 304, 24, 25, 159, 160, 161, 162, 22, 30, 28, 21, 20, 297, 298, 299, 300, 27, 440, 441, 442, 443, 444, 445, 446, 447, 448, 449, 450, 451, 452, 453, 454, 455, 456] (by decide +kernel) (by decide +kernel)
theorem gL_law_X3_isShortBy : GoodIn wsL_law (wsV RL 125 RX3 yX3_isShortBy wsX3_isShortBy) := goodIn_app (goodIn_of _ (by decide +kernel)) ggL_law_X3_isShortBy
set_option maxRecDepth 20000 in
theorem ggL_law_L_stock : GoodIn wsL_law wsL_stock := goodIn_ca (goodIn_r _ [392, 38, 393, 394, 395, 2, 396, 268, 269, 270, 50, 51, 52, 53, 54, 434, 435, 436, 437, 438, 439] (by decide +kernel) (by decide +kernel)) (goodIn_sub (fun _ h => List.mem_append_left _ (List.mem_append_right _ h)) (by decide +kernel))
theorem gL_law_L_stock : GoodIn wsL_law (va_wsS RL 126 yL_stock wsL_stock) := goodIn_app (goodIn_of _ (by decide +kernel)) ggL_law_L_stock
set_option maxRecDepth 20000 in
theorem ggL_law_X3_stock : GoodIn wsL_law wsX3_stock := goodIn_r _ [400, 69, 33, 70, 71, 5, 72, 440, 441, 442, 443, 444, 445, 446, 447, 448, 449, 450, 451, 452, 453, 454, 455, 456] (by decide +kernel) (by decide +kernel)
theorem gL_law_X3_stock : GoodIn wsL_law (wsV RL 128 RX3 yX3_stock wsX3_stock) := goodIn_app (goodIn_of _ (by decide +kernel)) ggL_law_X3_stock
set_option maxRecDepth 20000 in
theorem ggL_law_L_pass : GoodIn wsL_law wsL_pass := goodIn_ca (goodIn_ca (goodIn_r _ [403, 38, 39, 404, 405, 406, 2, 407, 44, 45, 133, 14, 50, 51, 52, 53, 54, 408, 409, 410, 49, 411, 60, 412, 152, 153, 413, 252, 253, 89, 254, 105, 414, 415, 416, 417, 288, 145, 434, 435, 436, 437, 438, 439, 457, 458, 459, 460, 461, 462, 463, 464, 465, 466, 467, 468, 469, 470, 471, 472, 473] (by decide +kernel) (by decide +kernel)) (goodIn_sub (fun _ h => List.mem_append_left _ (List.mem_append_left _ (List.mem_append_right _ h))) (by decide +kernel))) (goodIn_sub (fun _ h => List.mem_append_left _ (List.mem_append_right _ h)) (by decide +kernel))
theorem gL_law_L_pass : GoodIn wsL_law (va_wsS RL 129 yL_pass wsL_pass) := goodIn_app (goodIn_of _ (by decide +kernel)) ggL_law_L_pass
set_option maxRecDepth 20000 in
theorem ggL_law_X3_pass : GoodIn wsL_law wsX3_pass := goodIn_r _ [421, 158, 69, 70, 71, 5, 72, 422, 423, 424, 425, 68, 30, 32, 28, 25, 27, 440, 441, 442, 443, 444, 445, 446, 447, 448, 449, 450, 451, 452, 453, 454, 455, 456] (by decide +kernel) (by decide +kernel)
theorem gL_law_X3_pass : GoodIn wsL_law (wsV RL 131 RX3 yX3_pass wsX3_pass) := goodIn_app (goodIn_of _ (by decide +kernel)) ggL_law_X3_pass
set_option maxRecDepth 20000 in
theorem ggL_law_X2_day : GoodIn wsL_law wsX2_day := goodIn_r _ [429, 133, 434, 435, 436, 437, 438, 439] (by decide +kernel) (by decide +kernel)
theorem gL_law_X2_day : GoodIn wsL_law (wsV RL 132 RX2 yX2_day wsX2_day) := goodIn_app (goodIn_of _ (by decide +kernel)) ggL_law_X2_day
set_option maxRecDepth 20000 in
theorem ggL_law_X3_day : GoodIn wsL_law wsX3_day := goodIn_r _ [433, 69, 158, 440, 441, 442, 443, 444, 445, 446, 447, 448, 449, 450, 451, 452, 453, 454, 455, 456] (by decide +kernel) (by decide +kernel)
theorem gL_law_X3_day : GoodIn wsL_law (wsV RL 135 RX3 yX3_day wsX3_day) := goodIn_app (goodIn_of _ (by decide +kernel)) ggL_law_X3_day
