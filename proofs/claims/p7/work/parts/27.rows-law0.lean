set_option maxRecDepth 20000 in
theorem bdL_cell_0 : (decode cL_cell 0 = .ok (.iload_n 1, 1)) ∧ (decode cL_cell 1 = .ok (.aload_n 0, 1)) ∧ (decode cL_cell 2 = .ok (.arraylength, 1)) ∧ (decode cL_cell 3 = .ok (.if_icmp .ge 9, 3)) ∧ (decode cL_cell 6 = .ok (.aload_n 0, 1)) ∧ (decode cL_cell 7 = .ok (.iload_n 1, 1)) ∧ (decode cL_cell 8 = .ok (.iaload, 1)) ∧ (decode cL_cell 9 = .ok (.goto 4, 3)) ∧ (decode cL_cell 12 = .ok (.iconst 0, 1)) ∧ (decode cL_cell 13 = .ok (.ireturn, 1)) := by decide +kernel
theorem dL_cell_0 : decode cL_cell 0 = .ok (.iload_n 1, 1) := bdL_cell_0.1
theorem dL_cell_1 : decode cL_cell 1 = .ok (.aload_n 0, 1) := bdL_cell_0.2.1
theorem dL_cell_2 : decode cL_cell 2 = .ok (.arraylength, 1) := bdL_cell_0.2.2.1
theorem dL_cell_3 : decode cL_cell 3 = .ok (.if_icmp .ge 9, 3) := bdL_cell_0.2.2.2.1
theorem dL_cell_6 : decode cL_cell 6 = .ok (.aload_n 0, 1) := bdL_cell_0.2.2.2.2.1
theorem dL_cell_7 : decode cL_cell 7 = .ok (.iload_n 1, 1) := bdL_cell_0.2.2.2.2.2.1
theorem dL_cell_8 : decode cL_cell 8 = .ok (.iaload, 1) := bdL_cell_0.2.2.2.2.2.2.1
theorem dL_cell_9 : decode cL_cell 9 = .ok (.goto 4, 3) := bdL_cell_0.2.2.2.2.2.2.2.1
theorem dL_cell_12 : decode cL_cell 12 = .ok (.iconst 0, 1) := bdL_cell_0.2.2.2.2.2.2.2.2.1
theorem dL_cell_13 : decode cL_cell 13 = .ok (.ireturn, 1) := bdL_cell_0.2.2.2.2.2.2.2.2.2
set_option maxRecDepth 20000 in
theorem ggL_law_L_cell : GoodIn wsL_law wsL_cell := goodIn_r _ [10] (by decide +kernel) (by decide +kernel)
set_option maxRecDepth 20000 in
theorem gL_law_L_cell : GoodIn wsL_law (va_wsS RL 9 yL_cell wsL_cell) := goodIn_app (goodIn_of _ (by decide +kernel)) ggL_law_L_cell
set_option maxRecDepth 20000 in
theorem ggL_law_X3_init : GoodIn wsL_law wsX3_init := goodIn_r _ [13, 14, 15, 16, 17, 18, 19, 20, 21, 22, 23, 24, 25, 26, 27, 28, 29, 30, 31, 32, 33, 34, 35, 36, 37, 38, 39, 40, 41, 42, 418, 419, 420, 421, 422, 423, 424, 425, 426, 427, 428, 450, 451, 452, 453, 454] (by decide +kernel) (by decide +kernel)
set_option maxRecDepth 20000 in
theorem gL_law_X3_init : GoodIn wsL_law (wsX3_init) := ggL_law_X3_init
set_option maxRecDepth 20000 in
theorem ggL_law_X4_init : GoodIn wsL_law wsX4_init := goodIn_r _ [45, 46, 15, 16, 17, 47, 25, 48, 49, 50, 51, 52, 53, 54, 55, 56, 57, 58, 59, 60, 61, 62, 429, 430, 431, 432, 433, 434, 435, 436, 437, 438, 439, 440, 441, 442, 443, 444, 445, 446, 447, 448, 449] (by decide +kernel) (by decide +kernel)
set_option maxRecDepth 20000 in
theorem gL_law_X4_init : GoodIn wsL_law (wsX4_init) := ggL_law_X4_init
set_option maxRecDepth 20000 in
theorem ggL_law_X3_part : GoodIn wsL_law wsX3_part := goodIn_r _ [66, 19, 18, 418, 419, 420, 421, 422, 423, 424, 425, 426, 427, 428] (by decide +kernel) (by decide +kernel)
set_option maxRecDepth 20000 in
theorem gL_law_X3_part : GoodIn wsL_law (wsV RL 23 RX3 yX3_part wsX3_part) := goodIn_app (goodIn_of _ (by decide +kernel)) ggL_law_X3_part
set_option maxRecDepth 20000 in
theorem ggL_law_X4_part : GoodIn wsL_law wsX4_part := goodIn_r _ [70, 71, 49, 429, 430, 431, 432, 433, 434, 435, 436, 437, 438, 439, 440, 441, 442, 443, 444, 445, 446, 447, 448, 449] (by decide +kernel) (by decide +kernel)
set_option maxRecDepth 20000 in
theorem gL_law_X4_part : GoodIn wsL_law (wsV RL 27 RX4 yX4_part wsX4_part) := goodIn_app (goodIn_of _ (by decide +kernel)) ggL_law_X4_part
set_option maxRecDepth 20000 in
theorem ggL_law_X3_path : GoodIn wsL_law wsX3_path := goodIn_r _ [75, 19, 23, 18, 76, 77, 78, 22, 79, 42, 80, 81, 82, 83, 39, 38, 84, 85, 86, 87, 88, 40, 89, 2, 90, 91, 92, 418, 419, 420, 421, 422, 423, 424, 425, 426, 427, 428, 450, 451, 452, 453, 454] (by decide +kernel) (by decide +kernel)
set_option maxRecDepth 20000 in
theorem gL_law_X3_path : GoodIn wsL_law (wsV RL 28 RX3 yX3_path wsX3_path) := goodIn_app (goodIn_of _ (by decide +kernel)) ggL_law_X3_path
set_option maxRecDepth 20000 in
theorem ggL_law_X4_path : GoodIn wsL_law wsX4_path := goodIn_r _ [96, 71, 97, 98, 99, 5, 100, 101, 48, 47, 49, 102, 103, 104, 105, 429, 430, 431, 432, 433, 434, 435, 436, 437, 438, 439, 440, 441, 442, 443, 444, 445, 446, 447, 448, 449] (by decide +kernel) (by decide +kernel)
set_option maxRecDepth 20000 in
theorem gL_law_X4_path : GoodIn wsL_law (wsV RL 32 RX4 yX4_path wsX4_path) := goodIn_app (goodIn_of _ (by decide +kernel)) ggL_law_X4_path
set_option maxRecDepth 20000 in
theorem ggL_law_X3_key : GoodIn wsL_law wsX3_key := goodIn_r _ [109, 23, 33, 110, 111, 112, 113, 22, 114, 42, 418, 419, 420, 421, 422, 423, 424, 425, 426, 427, 428, 450, 451, 452, 453, 454] (by decide +kernel) (by decide +kernel)
set_option maxRecDepth 20000 in
theorem gL_law_X3_key : GoodIn wsL_law (wsV RL 33 RX3 yX3_key wsX3_key) := goodIn_app (goodIn_of _ (by decide +kernel)) ggL_law_X3_key
set_option maxRecDepth 20000 in
theorem ggL_law_X4_key : GoodIn wsL_law wsX4_key := goodIn_r _ [118, 119, 120, 121, 122, 5, 123, 101, 124, 125, 126, 127, 128, 129, 130, 48, 131, 47, 132, 133, 134, 135, 136, 429, 430, 431, 432, 433, 434, 435, 436, 437, 438, 439, 440, 441, 442, 443, 444, 445, 446, 447, 448, 449] (by decide +kernel) (by decide +kernel)
set_option maxRecDepth 20000 in
theorem gL_law_X4_key : GoodIn wsL_law (wsV RL 37 RX4 yX4_key wsX4_key) := goodIn_app (goodIn_of _ (by decide +kernel)) ggL_law_X4_key
set_option maxRecDepth 20000 in
theorem ggL_law_X3_word : GoodIn wsL_law wsX3_word := goodIn_r _ [140, 23, 33, 111, 112, 113, 22, 114, 42, 141, 142, 143, 2, 144, 34, 145, 110, 146, 89, 90, 91, 92, 147, 148, 149, 418, 419, 420, 421, 422, 423, 424, 425, 426, 427, 428, 450, 451, 452, 453, 454] (by decide +kernel) (by decide +kernel)
set_option maxRecDepth 20000 in
theorem gL_law_X3_word : GoodIn wsL_law (wsV RL 38 RX3 yX3_word wsX3_word) := goodIn_app (goodIn_of _ (by decide +kernel)) ggL_law_X3_word
set_option maxRecDepth 20000 in
theorem ggL_law_X4_word : GoodIn wsL_law wsX4_word := goodIn_r _ [153, 119, 120, 121, 122, 5, 123, 101, 124, 125, 126, 154, 155, 156, 157, 62, 131, 127, 128, 129, 130, 48, 47, 132, 133, 134, 135, 136, 429, 430, 431, 432, 433, 434, 435, 436, 437, 438, 439, 440, 441, 442, 443, 444, 445, 446, 447, 448, 449] (by decide +kernel) (by decide +kernel)
set_option maxRecDepth 20000 in
theorem gL_law_X4_word : GoodIn wsL_law (wsV RL 42 RX4 yX4_word wsX4_word) := goodIn_app (goodIn_of _ (by decide +kernel)) ggL_law_X4_word
set_option maxRecDepth 20000 in
theorem ggL_law_X3_span : GoodIn wsL_law wsX3_span := goodIn_r _ [161, 162, 23, 163, 111, 112, 113, 22, 114, 42, 164, 165, 166, 2, 167, 32, 168, 141, 142, 143, 144, 34, 145, 110, 146, 89, 90, 91, 92, 169, 170, 171, 172, 173, 174, 175, 176, 177, 178, 179, 147, 148, 149, 418, 419, 420, 421, 422, 423, 424, 425, 426, 427, 428, 450, 451, 452, 453, 454] (by decide +kernel) (by decide +kernel)
set_option maxRecDepth 20000 in
theorem gL_law_X3_span : GoodIn wsL_law (wsV RL 43 RX3 yX3_span wsX3_span) := goodIn_app (goodIn_of _ (by decide +kernel)) ggL_law_X3_span
set_option maxRecDepth 20000 in
theorem ggL_law_X4_span : GoodIn wsL_law wsX4_span := goodIn_r _ [183, 184, 185, 120, 121, 122, 5, 123, 101, 124, 125, 126, 186, 187, 188, 189, 190, 191, 192, 193, 194, 195, 196, 197, 198, 199, 154, 155, 156, 157, 62, 131, 127, 128, 129, 130, 48, 47, 132, 133, 134, 135, 136, 429, 430, 431, 432, 433, 434, 435, 436, 437, 438, 439, 440, 441, 442, 443, 444, 445, 446, 447, 448, 449] (by decide +kernel) (by decide +kernel)
set_option maxRecDepth 20000 in
theorem gL_law_X4_span : GoodIn wsL_law (wsV RL 47 RX4 yX4_span wsX4_span) := goodIn_app (goodIn_of _ (by decide +kernel)) ggL_law_X4_span
set_option maxRecDepth 20000 in
theorem ggL_law_X3_fraction : GoodIn wsL_law wsX3_fraction := goodIn_r _ [203, 23, 111, 112, 113, 22, 114, 42, 204, 205, 206, 2, 207, 32, 141, 142, 143, 144, 34, 145, 110, 146, 89, 90, 91, 92, 169, 170, 171, 172, 147, 148, 149, 418, 419, 420, 421, 422, 423, 424, 425, 426, 427, 428, 450, 451, 452, 453, 454] (by decide +kernel) (by decide +kernel)
set_option maxRecDepth 20000 in
theorem gL_law_X3_fraction : GoodIn wsL_law (wsV RL 48 RX3 yX3_fraction wsX3_fraction) := goodIn_app (goodIn_of _ (by decide +kernel)) ggL_law_X3_fraction
set_option maxRecDepth 20000 in
theorem ggL_law_X4_fraction : GoodIn wsL_law wsX4_fraction := goodIn_r _ [211, 191, 190, 212, 120, 121, 122, 5, 123, 101, 124, 125, 126, 154, 155, 156, 157, 62, 131, 127, 128, 129, 130, 48, 47, 132, 133, 134, 135, 136, 429, 430, 431, 432, 433, 434, 435, 436, 437, 438, 439, 440, 441, 442, 443, 444, 445, 446, 447, 448, 449] (by decide +kernel) (by decide +kernel)
set_option maxRecDepth 20000 in
theorem gL_law_X4_fraction : GoodIn wsL_law (wsV RL 52 RX4 yX4_fraction wsX4_fraction) := goodIn_app (goodIn_of _ (by decide +kernel)) ggL_law_X4_fraction
set_option maxRecDepth 20000 in
theorem ggL_law_X3_weight : GoodIn wsL_law wsX3_weight := goodIn_r _ [216, 24, 418, 419, 420, 421, 422, 423, 424, 425, 426, 427, 428] (by decide +kernel) (by decide +kernel)
set_option maxRecDepth 20000 in
theorem gL_law_X3_weight : GoodIn wsL_law (wsV RL 53 RX3 yX3_weight wsX3_weight) := goodIn_app (goodIn_of _ (by decide +kernel)) ggL_law_X3_weight
set_option maxRecDepth 20000 in
theorem ggL_law_X4_weight : GoodIn wsL_law wsX4_weight := goodIn_r _ [220, 221, 50, 124, 125, 5, 126, 429, 430, 431, 432, 433, 434, 435, 436, 437, 438, 439, 440, 441, 442, 443, 444, 445, 446, 447, 448, 449] (by decide +kernel) (by decide +kernel)
set_option maxRecDepth 20000 in
theorem gL_law_X4_weight : GoodIn wsL_law (wsV RL 57 RX4 yX4_weight wsX4_weight) := goodIn_app (goodIn_of _ (by decide +kernel)) ggL_law_X4_weight
set_option maxRecDepth 20000 in
theorem ggL_law_X3_pick : GoodIn wsL_law wsX3_pick := goodIn_r _ [225, 23, 111, 112, 113, 22, 114, 42, 226, 227, 228, 2, 229, 230, 231, 232, 233, 24, 234, 164, 165, 166, 167, 32, 168, 141, 142, 143, 144, 34, 145, 110, 146, 89, 90, 91, 92, 169, 170, 171, 172, 173, 174, 175, 176, 177, 178, 179, 147, 148, 149, 235, 236, 237, 238, 418, 419, 420, 421, 422, 423, 424, 425, 426, 427, 428, 450, 451, 452, 453, 454] (by decide +kernel) (by decide +kernel)
set_option maxRecDepth 20000 in
theorem gL_law_X3_pick : GoodIn wsL_law (wsV RL 58 RX3 yX3_pick wsX3_pick) := goodIn_app (goodIn_of _ (by decide +kernel)) ggL_law_X3_pick
set_option maxRecDepth 20000 in
theorem ggL_law_X4_pick : GoodIn wsL_law wsX4_pick := goodIn_r _ [242, 243, 120, 121, 122, 5, 123, 101, 124, 125, 126, 244, 245, 246, 247, 50, 248, 249, 250, 251, 186, 187, 188, 189, 190, 191, 192, 193, 194, 195, 196, 197, 198, 199, 154, 155, 156, 157, 62, 131, 127, 128, 129, 130, 48, 47, 132, 133, 134, 135, 136, 429, 430, 431, 432, 433, 434, 435, 436, 437, 438, 439, 440, 441, 442, 443, 444, 445, 446, 447, 448, 449] (by decide +kernel) (by decide +kernel)
set_option maxRecDepth 20000 in
theorem gL_law_X4_pick : GoodIn wsL_law (wsV RL 62 RX4 yX4_pick wsX4_pick) := goodIn_app (goodIn_of _ (by decide +kernel)) ggL_law_X4_pick
set_option maxRecDepth 20000 in
theorem ggL_law_X3_permuted : GoodIn wsL_law wsX3_permuted := goodIn_r _ [255, 23, 256, 26, 111, 112, 113, 22, 114, 42, 257, 258, 259, 2, 260, 164, 165, 166, 167, 32, 168, 141, 142, 143, 144, 34, 145, 110, 146, 89, 90, 91, 92, 169, 170, 171, 172, 173, 174, 175, 176, 177, 178, 179, 147, 148, 149, 418, 419, 420, 421, 422, 423, 424, 425, 426, 427, 428, 450, 451, 452, 453, 454] (by decide +kernel) (by decide +kernel)
set_option maxRecDepth 20000 in
theorem gL_law_X3_permuted : GoodIn wsL_law (wsV RL 63 RX3 yX3_permuted wsX3_permuted) := goodIn_app (goodIn_of _ (by decide +kernel)) ggL_law_X3_permuted
set_option maxRecDepth 20000 in
theorem ggL_law_X4_permuted : GoodIn wsL_law wsX4_permuted := goodIn_r _ [264, 265, 266, 60, 120, 121, 122, 5, 123, 101, 124, 125, 126, 186, 187, 188, 189, 190, 191, 192, 193, 194, 195, 196, 197, 198, 199, 154, 155, 156, 157, 62, 131, 127, 128, 129, 130, 48, 47, 132, 133, 134, 135, 136, 429, 430, 431, 432, 433, 434, 435, 436, 437, 438, 439, 440, 441, 442, 443, 444, 445, 446, 447, 448, 449] (by decide +kernel) (by decide +kernel)
set_option maxRecDepth 20000 in
theorem gL_law_X4_permuted : GoodIn wsL_law (wsV RL 67 RX4 yX4_permuted wsX4_permuted) := goodIn_app (goodIn_of _ (by decide +kernel)) ggL_law_X4_permuted
set_option maxRecDepth 20000 in
theorem ggL_law_X3_tries : GoodIn wsL_law wsX3_tries := goodIn_r _ [270, 32, 418, 419, 420, 421, 422, 423, 424, 425, 426, 427, 428] (by decide +kernel) (by decide +kernel)
set_option maxRecDepth 20000 in
theorem gL_law_X3_tries : GoodIn wsL_law (wsV RL 68 RX3 yX3_tries wsX3_tries) := goodIn_app (goodIn_of _ (by decide +kernel)) ggL_law_X3_tries
set_option maxRecDepth 20000 in
theorem ggL_law_X4_tries : GoodIn wsL_law wsX4_tries := goodIn_r _ [274, 191, 429, 430, 431, 432, 433, 434, 435, 436, 437, 438, 439, 440, 441, 442, 443, 444, 445, 446, 447, 448, 449] (by decide +kernel) (by decide +kernel)
set_option maxRecDepth 20000 in
theorem gL_law_X4_tries : GoodIn wsL_law (wsV RL 71 RX4 yX4_tries wsX4_tries) := goodIn_app (goodIn_of _ (by decide +kernel)) ggL_law_X4_tries
set_option maxRecDepth 20000 in
theorem ggL_law_X3_status : GoodIn wsL_law wsX3_status := goodIn_r _ [278, 33, 418, 419, 420, 421, 422, 423, 424, 425, 426, 427, 428] (by decide +kernel) (by decide +kernel)
set_option maxRecDepth 20000 in
theorem gL_law_X3_status : GoodIn wsL_law (wsV RL 72 RX3 yX3_status wsX3_status) := goodIn_app (goodIn_of _ (by decide +kernel)) ggL_law_X3_status
set_option maxRecDepth 20000 in
theorem ggL_law_X4_status : GoodIn wsL_law wsX4_status := goodIn_r _ [282, 119, 429, 430, 431, 432, 433, 434, 435, 436, 437, 438, 439, 440, 441, 442, 443, 444, 445, 446, 447, 448, 449] (by decide +kernel) (by decide +kernel)
set_option maxRecDepth 20000 in
theorem gL_law_X4_status : GoodIn wsL_law (wsV RL 75 RX4 yX4_status wsX4_status) := goodIn_app (goodIn_of _ (by decide +kernel)) ggL_law_X4_status
set_option maxRecDepth 20000 in
theorem ggL_law_X3_open : GoodIn wsL_law wsX3_open := goodIn_r _ [286, 23, 29, 111, 112, 113, 22, 114, 42, 287, 288, 289, 2, 290, 28, 27, 291, 292, 293, 294, 295, 296, 15, 16, 297, 298, 299, 300, 418, 419, 420, 421, 422, 423, 424, 425, 426, 427, 428, 450, 451, 452, 453, 454, 455, 456, 457, 458] (by decide +kernel) (by decide +kernel)
set_option maxRecDepth 20000 in
theorem gL_law_X3_open : GoodIn wsL_law (wsV RL 76 RX3 yX3_open wsX3_open) := goodIn_app (goodIn_of _ (by decide +kernel)) ggL_law_X3_open
set_option maxRecDepth 20000 in
theorem ggL_law_X4_open : GoodIn wsL_law wsX4_open := goodIn_r _ [304, 305, 120, 121, 122, 5, 123, 101, 124, 125, 126, 306, 307, 308, 309, 51, 52, 53, 54, 429, 430, 431, 432, 433, 434, 435, 436, 437, 438, 439, 440, 441, 442, 443, 444, 445, 446, 447, 448, 449] (by decide +kernel) (by decide +kernel)
set_option maxRecDepth 20000 in
theorem gL_law_X4_open : GoodIn wsL_law (wsV RL 80 RX4 yX4_open wsX4_open) := goodIn_app (goodIn_of _ (by decide +kernel)) ggL_law_X4_open
set_option maxRecDepth 20000 in
theorem ggL_law_X3_next : GoodIn wsL_law wsX3_next := goodIn_r _ [313, 314, 256, 163, 162, 315, 316, 317, 318, 319, 2, 320, 29, 28, 164, 165, 166, 167, 32, 168, 141, 142, 143, 144, 34, 145, 23, 110, 146, 89, 90, 91, 92, 169, 170, 171, 172, 173, 174, 175, 176, 177, 178, 179, 147, 148, 149, 455, 456, 457, 458, 418, 419, 420, 421, 422, 423, 424, 425, 426, 427, 428, 450, 451, 452, 453, 454] (by decide +kernel) (by decide +kernel)
set_option maxRecDepth 20000 in
theorem gL_law_X3_next : GoodIn wsL_law (wsV RL 81 RX3 yX3_next wsX3_next) := goodIn_app (goodIn_of _ (by decide +kernel)) ggL_law_X3_next
set_option maxRecDepth 20000 in
theorem ggL_law_X4_next : GoodIn wsL_law wsX4_next := goodIn_r _ [324, 53, 325, 184, 185, 51, 52, 326, 327, 328, 5, 329, 305, 124, 125, 126, 186, 187, 188, 189, 190, 191, 192, 193, 194, 195, 196, 197, 198, 199, 154, 155, 156, 157, 62, 131, 127, 128, 129, 130, 48, 47, 132, 133, 134, 135, 136, 429, 430, 431, 432, 433, 434, 435, 436, 437, 438, 439, 440, 441, 442, 443, 444, 445, 446, 447, 448, 449] (by decide +kernel) (by decide +kernel)
set_option maxRecDepth 20000 in
theorem gL_law_X4_next : GoodIn wsL_law (wsV RL 85 RX4 yX4_next wsX4_next) := goodIn_app (goodIn_of _ (by decide +kernel)) ggL_law_X4_next
set_option maxRecDepth 20000 in
theorem ggL_law_X3_nextPick : GoodIn wsL_law wsX3_nextPick := goodIn_r _ [333, 314, 256, 315, 316, 317, 318, 319, 2, 320, 29, 28, 226, 227, 228, 229, 230, 231, 232, 233, 24, 234, 164, 165, 166, 167, 32, 168, 141, 142, 143, 144, 34, 145, 23, 110, 146, 89, 90, 91, 92, 169, 170, 171, 172, 173, 174, 175, 176, 177, 178, 179, 147, 148, 149, 235, 236, 237, 238, 455, 456, 457, 458, 418, 419, 420, 421, 422, 423, 424, 425, 426, 427, 428, 450, 451, 452, 453, 454] (by decide +kernel) (by decide +kernel)
set_option maxRecDepth 20000 in
theorem gL_law_X3_nextPick : GoodIn wsL_law (wsV RL 86 RX3 yX3_nextPick wsX3_nextPick) := goodIn_app (goodIn_of _ (by decide +kernel)) ggL_law_X3_nextPick
set_option maxRecDepth 20000 in
theorem ggL_law_X4_nextPick : GoodIn wsL_law wsX4_nextPick := goodIn_r _ [337, 53, 325, 243, 51, 52, 326, 327, 328, 5, 329, 305, 124, 125, 126, 244, 245, 246, 247, 50, 248, 249, 250, 251, 186, 187, 188, 189, 190, 191, 192, 193, 194, 195, 196, 197, 198, 199, 154, 155, 156, 157, 62, 131, 127, 128, 129, 130, 48, 47, 132, 133, 134, 135, 136, 429, 430, 431, 432, 433, 434, 435, 436, 437, 438, 439, 440, 441, 442, 443, 444, 445, 446, 447, 448, 449] (by decide +kernel) (by decide +kernel)
set_option maxRecDepth 20000 in
theorem gL_law_X4_nextPick : GoodIn wsL_law (wsV RL 90 RX4 yX4_nextPick wsX4_nextPick) := goodIn_app (goodIn_of _ (by decide +kernel)) ggL_law_X4_nextPick
set_option maxRecDepth 20000 in
theorem ggL_law_X3_split : GoodIn wsL_law wsX3_split := goodIn_r _ [341, 29, 23, 316, 342, 315, 317, 318, 319, 2, 320, 28, 343, 344, 345, 22, 346, 39, 41, 38, 347, 77, 78, 79, 42, 80, 81, 82, 83, 84, 85, 86, 87, 88, 40, 89, 90, 91, 92, 287, 288, 289, 290, 27, 291, 292, 293, 294, 295, 296, 15, 16, 297, 298, 299, 300, 418, 419, 420, 421, 422, 423, 424, 425, 426, 427, 428, 455, 456, 457, 458, 450, 451, 452, 453, 454] (by decide +kernel) (by decide +kernel)
set_option maxRecDepth 20000 in
theorem gL_law_X3_split : GoodIn wsL_law (wsV RL 91 RX3 yX3_split wsX3_split) := goodIn_app (goodIn_of _ (by decide +kernel)) ggL_law_X3_split
set_option maxRecDepth 20000 in
theorem ggL_law_X4_split : GoodIn wsL_law wsX4_split := goodIn_r _ [351, 52, 305, 48, 71, 61, 49, 47, 54, 51, 326, 327, 328, 5, 329, 124, 125, 126, 97, 98, 99, 100, 101, 102, 103, 104, 105, 306, 307, 308, 309, 53, 429, 430, 431, 432, 433, 434, 435, 436, 437, 438, 439, 440, 441, 442, 443, 444, 445, 446, 447, 448, 449] (by decide +kernel) (by decide +kernel)
set_option maxRecDepth 20000 in
theorem gL_law_X4_split : GoodIn wsL_law (wsV RL 94 RX4 yX4_split wsX4_split) := goodIn_app (goodIn_of _ (by decide +kernel)) ggL_law_X4_split
set_option maxRecDepth 20000 in
theorem ggL_law_X3_skip : GoodIn wsL_law wsX3_skip := goodIn_r _ [355, 356, 314, 256, 317, 318, 319, 2, 320, 29, 28, 455, 456, 457, 458, 418, 419, 420, 421, 422, 423, 424, 425, 426, 427, 428] (by decide +kernel) (by decide +kernel)
set_option maxRecDepth 20000 in
theorem gL_law_X3_skip : GoodIn wsL_law (wsV RL 95 RX3 yX3_skip wsX3_skip) := goodIn_app (goodIn_of _ (by decide +kernel)) ggL_law_X3_skip
set_option maxRecDepth 20000 in
theorem ggL_law_X4_skip : GoodIn wsL_law wsX4_skip := goodIn_r _ [360, 361, 53, 266, 326, 327, 328, 5, 329, 305, 124, 125, 126, 429, 430, 431, 432, 433, 434, 435, 436, 437, 438, 439, 440, 441, 442, 443, 444, 445, 446, 447, 448, 449] (by decide +kernel) (by decide +kernel)
set_option maxRecDepth 20000 in
theorem gL_law_X4_skip : GoodIn wsL_law (wsV RL 99 RX4 yX4_skip wsX4_skip) := goodIn_app (goodIn_of _ (by decide +kernel)) ggL_law_X4_skip
set_option maxRecDepth 20000 in
theorem ggL_law_X3_keep : GoodIn wsL_law wsX3_keep := goodIn_r _ [365, 31, 30, 366, 367, 368, 314, 369, 342, 370, 317, 318, 319, 2, 320, 29, 28, 371, 372, 373, 15, 16, 374, 375, 376, 418, 419, 420, 421, 422, 423, 424, 425, 426, 427, 428, 459, 460, 461, 455, 456, 457, 458] (by decide +kernel) (by decide +kernel)
set_option maxRecDepth 20000 in
theorem gL_law_X3_keep : GoodIn wsL_law (wsV RL 100 RX3 yX3_keep wsX3_keep) := goodIn_app (goodIn_of _ (by decide +kernel)) ggL_law_X3_keep
set_option maxRecDepth 20000 in
theorem ggL_law_X4_keep : GoodIn wsL_law wsX4_keep := goodIn_r _ [380, 381, 59, 55, 56, 53, 57, 54, 124, 125, 5, 126, 326, 327, 328, 329, 305, 429, 430, 431, 432, 433, 434, 435, 436, 437, 438, 439, 440, 441, 442, 443, 444, 445, 446, 447, 448, 449] (by decide +kernel) (by decide +kernel)
set_option maxRecDepth 20000 in
theorem gL_law_X4_keep : GoodIn wsL_law (wsV RL 103 RX4 yX4_keep wsX4_keep) := goodIn_app (goodIn_of _ (by decide +kernel)) ggL_law_X4_keep
set_option maxRecDepth 20000 in
theorem ggL_law_X3_back : GoodIn wsL_law wsX3_back := goodIn_r _ [385, 31, 368, 369, 314, 370, 342, 317, 318, 319, 2, 320, 29, 28, 418, 419, 420, 421, 422, 423, 424, 425, 426, 427, 428, 459, 460, 461, 455, 456, 457, 458] (by decide +kernel) (by decide +kernel)
set_option maxRecDepth 20000 in
theorem gL_law_X3_back : GoodIn wsL_law (wsV RL 104 RX3 yX3_back wsX3_back) := goodIn_app (goodIn_of _ (by decide +kernel)) ggL_law_X3_back
set_option maxRecDepth 20000 in
theorem ggL_law_X4_back : GoodIn wsL_law wsX4_back := goodIn_r _ [389, 381, 59, 55, 53, 56, 54, 57, 124, 125, 5, 126, 429, 430, 431, 432, 433, 434, 435, 436, 437, 438, 439, 440, 441, 442, 443, 444, 445, 446, 447, 448, 449] (by decide +kernel) (by decide +kernel)
set_option maxRecDepth 20000 in
theorem gL_law_X4_back : GoodIn wsL_law (wsV RL 107 RX4 yX4_back wsX4_back) := goodIn_app (goodIn_of _ (by decide +kernel)) ggL_law_X4_back
set_option maxRecDepth 20000 in
theorem ggL_law_X3_told : GoodIn wsL_law wsX3_told := goodIn_r _ [393, 316, 314, 342, 317, 318, 319, 2, 320, 29, 28, 455, 456, 457, 458, 418, 419, 420, 421, 422, 423, 424, 425, 426, 427, 428] (by decide +kernel) (by decide +kernel)
set_option maxRecDepth 20000 in
theorem gL_law_X3_told : GoodIn wsL_law (wsV RL 108 RX3 yX3_told wsX3_told) := goodIn_app (goodIn_of _ (by decide +kernel)) ggL_law_X3_told
set_option maxRecDepth 20000 in
theorem ggL_law_X4_told : GoodIn wsL_law wsX4_told := goodIn_r _ [397, 212, 52, 53, 54, 326, 327, 328, 5, 329, 305, 124, 125, 126, 429, 430, 431, 432, 433, 434, 435, 436, 437, 438, 439, 440, 441, 442, 443, 444, 445, 446, 447, 448, 449] (by decide +kernel) (by decide +kernel)
set_option maxRecDepth 20000 in
theorem gL_law_X4_told : GoodIn wsL_law (wsV RL 111 RX4 yX4_told wsX4_told) := goodIn_app (goodIn_of _ (by decide +kernel)) ggL_law_X4_told
set_option maxRecDepth 20000 in
theorem ggL_law_X3_counted : GoodIn wsL_law wsX3_counted := goodIn_r _ [401, 402] (by decide +kernel) (by decide +kernel)
set_option maxRecDepth 20000 in
theorem gL_law_X3_counted : GoodIn wsL_law (wsV RL 112 RX3 yX3_counted wsX3_counted) := goodIn_app (goodIn_of _ (by decide +kernel)) ggL_law_X3_counted
set_option maxRecDepth 20000 in
theorem ggL_law_X4_counted : GoodIn wsL_law wsX4_counted := goodIn_r _ [406, 407, 408, 124, 125, 5, 126] (by decide +kernel) (by decide +kernel)
set_option maxRecDepth 20000 in
theorem gL_law_X4_counted : GoodIn wsL_law (wsV RL 116 RX4 yX4_counted wsX4_counted) := goodIn_app (goodIn_of _ (by decide +kernel)) ggL_law_X4_counted
set_option maxRecDepth 20000 in
theorem ggL_law_X3_count : GoodIn wsL_law wsX3_count := goodIn_r _ [412, 23, 413, 29, 19, 418, 419, 420, 421, 422, 423, 424, 425, 426, 427, 428, 450, 451, 452, 453, 454] (by decide +kernel) (by decide +kernel)
set_option maxRecDepth 20000 in
theorem gL_law_X3_count : GoodIn wsL_law (wsV RL 117 RX3 yX3_count wsX3_count) := goodIn_app (goodIn_of _ (by decide +kernel)) ggL_law_X3_count
set_option maxRecDepth 20000 in
theorem ggL_law_X4_count : GoodIn wsL_law wsX4_count := goodIn_r _ [417, 101, 305, 71, 429, 430, 431, 432, 433, 434, 435, 436, 437, 438, 439, 440, 441, 442, 443, 444, 445, 446, 447, 448, 449] (by decide +kernel) (by decide +kernel)
set_option maxRecDepth 20000 in
theorem gL_law_X4_count : GoodIn wsL_law (wsV RL 120 RX4 yX4_count wsX4_count) := goodIn_app (goodIn_of _ (by decide +kernel)) ggL_law_X4_count
set_option maxRecDepth 20000 in
theorem bdL_law_0 : (decode cL_law 0 = .ok (.new 7, 3)) ∧ (decode cL_law 3 = .ok (.dup, 1)) ∧ (decode cL_law 4 = .ok (.aload_n 0, 1)) ∧ (decode cL_law 5 = .ok (.iconst 0, 1)) ∧ (decode cL_law 6 = .ok (.invokestatic 9, 3)) ∧ (decode cL_law 9 = .ok (.i2l, 1)) ∧ (decode cL_law 10 = .ok (.invokespecial 15, 3)) ∧ (decode cL_law 13 = .ok (.astore_n 1, 1)) ∧ (decode cL_law 14 = .ok (.new 18, 3)) ∧ (decode cL_law 17 = .ok (.dup, 1)) ∧ (decode cL_law 18 = .ok (.aload_n 0, 1)) ∧ (decode cL_law 19 = .ok (.iconst 0, 1)) := by decide +kernel
theorem dL_law_0 : decode cL_law 0 = .ok (.new 7, 3) := bdL_law_0.1
theorem dL_law_3 : decode cL_law 3 = .ok (.dup, 1) := bdL_law_0.2.1
theorem dL_law_4 : decode cL_law 4 = .ok (.aload_n 0, 1) := bdL_law_0.2.2.1
theorem dL_law_5 : decode cL_law 5 = .ok (.iconst 0, 1) := bdL_law_0.2.2.2.1
theorem dL_law_6 : decode cL_law 6 = .ok (.invokestatic 9, 3) := bdL_law_0.2.2.2.2.1
theorem dL_law_9 : decode cL_law 9 = .ok (.i2l, 1) := bdL_law_0.2.2.2.2.2.1
theorem dL_law_10 : decode cL_law 10 = .ok (.invokespecial 15, 3) := bdL_law_0.2.2.2.2.2.2.1
theorem dL_law_13 : decode cL_law 13 = .ok (.astore_n 1, 1) := bdL_law_0.2.2.2.2.2.2.2.1
theorem dL_law_14 : decode cL_law 14 = .ok (.new 18, 3) := bdL_law_0.2.2.2.2.2.2.2.2.1
theorem dL_law_17 : decode cL_law 17 = .ok (.dup, 1) := bdL_law_0.2.2.2.2.2.2.2.2.2.1
theorem dL_law_18 : decode cL_law 18 = .ok (.aload_n 0, 1) := bdL_law_0.2.2.2.2.2.2.2.2.2.2.1
theorem dL_law_19 : decode cL_law 19 = .ok (.iconst 0, 1) := bdL_law_0.2.2.2.2.2.2.2.2.2.2.2
set_option maxRecDepth 20000 in
theorem bdL_law_20 : (decode cL_law 20 = .ok (.invokestatic 9, 3)) ∧ (decode cL_law 23 = .ok (.i2l, 1)) ∧ (decode cL_law 24 = .ok (.invokespecial 20, 3)) ∧ (decode cL_law 27 = .ok (.astore_n 2, 1)) ∧ (decode cL_law 28 = .ok (.iconst 1, 1)) ∧ (decode cL_law 29 = .ok (.istore_n 3, 1)) ∧ (decode cL_law 30 = .ok (.iload_n 3, 1)) ∧ (decode cL_law 31 = .ok (.aload_n 0, 1)) ∧ (decode cL_law 32 = .ok (.arraylength, 1)) ∧ (decode cL_law 33 = .ok (.bipush 9, 2)) ∧ (decode cL_law 35 = .ok (.isub, 1)) ∧ (decode cL_law 36 = .ok (.if_icmp .gt 1197, 3)) := by decide +kernel
theorem dL_law_20 : decode cL_law 20 = .ok (.invokestatic 9, 3) := bdL_law_20.1
theorem dL_law_23 : decode cL_law 23 = .ok (.i2l, 1) := bdL_law_20.2.1
theorem dL_law_24 : decode cL_law 24 = .ok (.invokespecial 20, 3) := bdL_law_20.2.2.1
theorem dL_law_27 : decode cL_law 27 = .ok (.astore_n 2, 1) := bdL_law_20.2.2.2.1
theorem dL_law_28 : decode cL_law 28 = .ok (.iconst 1, 1) := bdL_law_20.2.2.2.2.1
theorem dL_law_29 : decode cL_law 29 = .ok (.istore_n 3, 1) := bdL_law_20.2.2.2.2.2.1
theorem dL_law_30 : decode cL_law 30 = .ok (.iload_n 3, 1) := bdL_law_20.2.2.2.2.2.2.1
theorem dL_law_31 : decode cL_law 31 = .ok (.aload_n 0, 1) := bdL_law_20.2.2.2.2.2.2.2.1
theorem dL_law_32 : decode cL_law 32 = .ok (.arraylength, 1) := bdL_law_20.2.2.2.2.2.2.2.2.1
theorem dL_law_33 : decode cL_law 33 = .ok (.bipush 9, 2) := bdL_law_20.2.2.2.2.2.2.2.2.2.1
theorem dL_law_35 : decode cL_law 35 = .ok (.isub, 1) := bdL_law_20.2.2.2.2.2.2.2.2.2.2.1
theorem dL_law_36 : decode cL_law 36 = .ok (.if_icmp .gt 1197, 3) := bdL_law_20.2.2.2.2.2.2.2.2.2.2.2
set_option maxRecDepth 20000 in
theorem bdL_law_39 : (decode cL_law 39 = .ok (.aload_n 0, 1)) ∧ (decode cL_law 40 = .ok (.iload_n 3, 1)) ∧ (decode cL_law 41 = .ok (.iaload, 1)) ∧ (decode cL_law 42 = .ok (.bipush 31, 2)) ∧ (decode cL_law 44 = .ok (.iand, 1)) ∧ (decode cL_law 45 = .ok (.tableswitch 1182 0 20 #[99, 152, 165, 188, 291, 406, 565, 628, 701, 796, 809, 822, 885, 948, 971, 994, 1027, 1060, 1083, 1116, 1159], 99)) ∧ (decode cL_law 144 = .ok (.aload_n 1, 1)) ∧ (decode cL_law 145 = .ok (.aload_n 0, 1)) ∧ (decode cL_law 146 = .ok (.iload_n 3, 1)) ∧ (decode cL_law 147 = .ok (.iconst 1, 1)) ∧ (decode cL_law 148 = .ok (.iadd, 1)) ∧ (decode cL_law 149 = .ok (.iaload, 1)) := by decide +kernel
theorem dL_law_39 : decode cL_law 39 = .ok (.aload_n 0, 1) := bdL_law_39.1
theorem dL_law_40 : decode cL_law 40 = .ok (.iload_n 3, 1) := bdL_law_39.2.1
theorem dL_law_41 : decode cL_law 41 = .ok (.iaload, 1) := bdL_law_39.2.2.1
theorem dL_law_42 : decode cL_law 42 = .ok (.bipush 31, 2) := bdL_law_39.2.2.2.1
theorem dL_law_44 : decode cL_law 44 = .ok (.iand, 1) := bdL_law_39.2.2.2.2.1
theorem dL_law_45 : decode cL_law 45 = .ok (.tableswitch 1182 0 20 #[99, 152, 165, 188, 291, 406, 565, 628, 701, 796, 809, 822, 885, 948, 971, 994, 1027, 1060, 1083, 1116, 1159], 99) := bdL_law_39.2.2.2.2.2.1
theorem dL_law_144 : decode cL_law 144 = .ok (.aload_n 1, 1) := bdL_law_39.2.2.2.2.2.2.1
theorem dL_law_145 : decode cL_law 145 = .ok (.aload_n 0, 1) := bdL_law_39.2.2.2.2.2.2.2.1
theorem dL_law_146 : decode cL_law 146 = .ok (.iload_n 3, 1) := bdL_law_39.2.2.2.2.2.2.2.2.1
theorem dL_law_147 : decode cL_law 147 = .ok (.iconst 1, 1) := bdL_law_39.2.2.2.2.2.2.2.2.2.1
theorem dL_law_148 : decode cL_law 148 = .ok (.iadd, 1) := bdL_law_39.2.2.2.2.2.2.2.2.2.2.1
theorem dL_law_149 : decode cL_law 149 = .ok (.iaload, 1) := bdL_law_39.2.2.2.2.2.2.2.2.2.2.2
set_option maxRecDepth 20000 in
theorem bdL_law_150 : (decode cL_law 150 = .ok (.i2l, 1)) ∧ (decode cL_law 151 = .ok (.bipush 32, 2)) ∧ (decode cL_law 153 = .ok (.lshl, 1)) ∧ (decode cL_law 154 = .ok (.aload_n 0, 1)) ∧ (decode cL_law 155 = .ok (.iload_n 3, 1)) ∧ (decode cL_law 156 = .ok (.iconst 2, 1)) ∧ (decode cL_law 157 = .ok (.iadd, 1)) ∧ (decode cL_law 158 = .ok (.iaload, 1)) ∧ (decode cL_law 159 = .ok (.i2l, 1)) ∧ (decode cL_law 160 = .ok (.ldc2_w 21, 3)) ∧ (decode cL_law 163 = .ok (.land, 1)) ∧ (decode cL_law 164 = .ok (.lor, 1)) := by decide +kernel
theorem dL_law_150 : decode cL_law 150 = .ok (.i2l, 1) := bdL_law_150.1
theorem dL_law_151 : decode cL_law 151 = .ok (.bipush 32, 2) := bdL_law_150.2.1
theorem dL_law_153 : decode cL_law 153 = .ok (.lshl, 1) := bdL_law_150.2.2.1
theorem dL_law_154 : decode cL_law 154 = .ok (.aload_n 0, 1) := bdL_law_150.2.2.2.1
theorem dL_law_155 : decode cL_law 155 = .ok (.iload_n 3, 1) := bdL_law_150.2.2.2.2.1
theorem dL_law_156 : decode cL_law 156 = .ok (.iconst 2, 1) := bdL_law_150.2.2.2.2.2.1
theorem dL_law_157 : decode cL_law 157 = .ok (.iadd, 1) := bdL_law_150.2.2.2.2.2.2.1
theorem dL_law_158 : decode cL_law 158 = .ok (.iaload, 1) := bdL_law_150.2.2.2.2.2.2.2.1
theorem dL_law_159 : decode cL_law 159 = .ok (.i2l, 1) := bdL_law_150.2.2.2.2.2.2.2.2.1
theorem dL_law_160 : decode cL_law 160 = .ok (.ldc2_w 21, 3) := bdL_law_150.2.2.2.2.2.2.2.2.2.1
theorem dL_law_163 : decode cL_law 163 = .ok (.land, 1) := bdL_law_150.2.2.2.2.2.2.2.2.2.2.1
theorem dL_law_164 : decode cL_law 164 = .ok (.lor, 1) := bdL_law_150.2.2.2.2.2.2.2.2.2.2.2
set_option maxRecDepth 20000 in
theorem bdL_law_165 : (decode cL_law 165 = .ok (.invokevirtual 23, 3)) ∧ (decode cL_law 168 = .ok (.pop, 1)) ∧ (decode cL_law 169 = .ok (.aload_n 2, 1)) ∧ (decode cL_law 170 = .ok (.aload_n 0, 1)) ∧ (decode cL_law 171 = .ok (.iload_n 3, 1)) ∧ (decode cL_law 172 = .ok (.iconst 1, 1)) ∧ (decode cL_law 173 = .ok (.iadd, 1)) ∧ (decode cL_law 174 = .ok (.iaload, 1)) ∧ (decode cL_law 175 = .ok (.i2l, 1)) ∧ (decode cL_law 176 = .ok (.bipush 32, 2)) ∧ (decode cL_law 178 = .ok (.lshl, 1)) ∧ (decode cL_law 179 = .ok (.aload_n 0, 1)) := by decide +kernel
theorem dL_law_165 : decode cL_law 165 = .ok (.invokevirtual 23, 3) := bdL_law_165.1
theorem dL_law_168 : decode cL_law 168 = .ok (.pop, 1) := bdL_law_165.2.1
theorem dL_law_169 : decode cL_law 169 = .ok (.aload_n 2, 1) := bdL_law_165.2.2.1
theorem dL_law_170 : decode cL_law 170 = .ok (.aload_n 0, 1) := bdL_law_165.2.2.2.1
theorem dL_law_171 : decode cL_law 171 = .ok (.iload_n 3, 1) := bdL_law_165.2.2.2.2.1
theorem dL_law_172 : decode cL_law 172 = .ok (.iconst 1, 1) := bdL_law_165.2.2.2.2.2.1
theorem dL_law_173 : decode cL_law 173 = .ok (.iadd, 1) := bdL_law_165.2.2.2.2.2.2.1
theorem dL_law_174 : decode cL_law 174 = .ok (.iaload, 1) := bdL_law_165.2.2.2.2.2.2.2.1
theorem dL_law_175 : decode cL_law 175 = .ok (.i2l, 1) := bdL_law_165.2.2.2.2.2.2.2.2.1
theorem dL_law_176 : decode cL_law 176 = .ok (.bipush 32, 2) := bdL_law_165.2.2.2.2.2.2.2.2.2.1
theorem dL_law_178 : decode cL_law 178 = .ok (.lshl, 1) := bdL_law_165.2.2.2.2.2.2.2.2.2.2.1
theorem dL_law_179 : decode cL_law 179 = .ok (.aload_n 0, 1) := bdL_law_165.2.2.2.2.2.2.2.2.2.2.2
set_option maxRecDepth 20000 in
theorem bdL_law_180 : (decode cL_law 180 = .ok (.iload_n 3, 1)) ∧ (decode cL_law 181 = .ok (.iconst 2, 1)) ∧ (decode cL_law 182 = .ok (.iadd, 1)) ∧ (decode cL_law 183 = .ok (.iaload, 1)) ∧ (decode cL_law 184 = .ok (.i2l, 1)) ∧ (decode cL_law 185 = .ok (.ldc2_w 21, 3)) ∧ (decode cL_law 188 = .ok (.land, 1)) ∧ (decode cL_law 189 = .ok (.lor, 1)) ∧ (decode cL_law 190 = .ok (.invokevirtual 27, 3)) ∧ (decode cL_law 193 = .ok (.pop, 1)) ∧ (decode cL_law 194 = .ok (.goto 1033, 3)) ∧ (decode cL_law 197 = .ok (.aload_n 1, 1)) := by decide +kernel
theorem dL_law_180 : decode cL_law 180 = .ok (.iload_n 3, 1) := bdL_law_180.1
theorem dL_law_181 : decode cL_law 181 = .ok (.iconst 2, 1) := bdL_law_180.2.1
theorem dL_law_182 : decode cL_law 182 = .ok (.iadd, 1) := bdL_law_180.2.2.1
theorem dL_law_183 : decode cL_law 183 = .ok (.iaload, 1) := bdL_law_180.2.2.2.1
theorem dL_law_184 : decode cL_law 184 = .ok (.i2l, 1) := bdL_law_180.2.2.2.2.1
theorem dL_law_185 : decode cL_law 185 = .ok (.ldc2_w 21, 3) := bdL_law_180.2.2.2.2.2.1
theorem dL_law_188 : decode cL_law 188 = .ok (.land, 1) := bdL_law_180.2.2.2.2.2.2.1
theorem dL_law_189 : decode cL_law 189 = .ok (.lor, 1) := bdL_law_180.2.2.2.2.2.2.2.1
theorem dL_law_190 : decode cL_law 190 = .ok (.invokevirtual 27, 3) := bdL_law_180.2.2.2.2.2.2.2.2.1
theorem dL_law_193 : decode cL_law 193 = .ok (.pop, 1) := bdL_law_180.2.2.2.2.2.2.2.2.2.1
theorem dL_law_194 : decode cL_law 194 = .ok (.goto 1033, 3) := bdL_law_180.2.2.2.2.2.2.2.2.2.2.1
theorem dL_law_197 : decode cL_law 197 = .ok (.aload_n 1, 1) := bdL_law_180.2.2.2.2.2.2.2.2.2.2.2
set_option maxRecDepth 20000 in
theorem bdL_law_198 : (decode cL_law 198 = .ok (.invokevirtual 28, 3)) ∧ (decode cL_law 201 = .ok (.pop, 1)) ∧ (decode cL_law 202 = .ok (.aload_n 2, 1)) ∧ (decode cL_law 203 = .ok (.invokevirtual 32, 3)) ∧ (decode cL_law 206 = .ok (.pop, 1)) ∧ (decode cL_law 207 = .ok (.goto 1020, 3)) ∧ (decode cL_law 210 = .ok (.aload_n 1, 1)) ∧ (decode cL_law 211 = .ok (.aload_n 0, 1)) ∧ (decode cL_law 212 = .ok (.iload_n 3, 1)) ∧ (decode cL_law 213 = .ok (.iconst 1, 1)) ∧ (decode cL_law 214 = .ok (.iadd, 1)) ∧ (decode cL_law 215 = .ok (.iaload, 1)) := by decide +kernel
theorem dL_law_198 : decode cL_law 198 = .ok (.invokevirtual 28, 3) := bdL_law_198.1
theorem dL_law_201 : decode cL_law 201 = .ok (.pop, 1) := bdL_law_198.2.1
theorem dL_law_202 : decode cL_law 202 = .ok (.aload_n 2, 1) := bdL_law_198.2.2.1
theorem dL_law_203 : decode cL_law 203 = .ok (.invokevirtual 32, 3) := bdL_law_198.2.2.2.1
theorem dL_law_206 : decode cL_law 206 = .ok (.pop, 1) := bdL_law_198.2.2.2.2.1
theorem dL_law_207 : decode cL_law 207 = .ok (.goto 1020, 3) := bdL_law_198.2.2.2.2.2.1
theorem dL_law_210 : decode cL_law 210 = .ok (.aload_n 1, 1) := bdL_law_198.2.2.2.2.2.2.1
theorem dL_law_211 : decode cL_law 211 = .ok (.aload_n 0, 1) := bdL_law_198.2.2.2.2.2.2.2.1
theorem dL_law_212 : decode cL_law 212 = .ok (.iload_n 3, 1) := bdL_law_198.2.2.2.2.2.2.2.2.1
theorem dL_law_213 : decode cL_law 213 = .ok (.iconst 1, 1) := bdL_law_198.2.2.2.2.2.2.2.2.2.1
theorem dL_law_214 : decode cL_law 214 = .ok (.iadd, 1) := bdL_law_198.2.2.2.2.2.2.2.2.2.2.1
theorem dL_law_215 : decode cL_law 215 = .ok (.iaload, 1) := bdL_law_198.2.2.2.2.2.2.2.2.2.2.2
set_option maxRecDepth 20000 in
theorem bdL_law_216 : (decode cL_law 216 = .ok (.invokevirtual 33, 3)) ∧ (decode cL_law 219 = .ok (.pop2, 1)) ∧ (decode cL_law 220 = .ok (.aload_n 2, 1)) ∧ (decode cL_law 221 = .ok (.aload_n 0, 1)) ∧ (decode cL_law 222 = .ok (.iload_n 3, 1)) ∧ (decode cL_law 223 = .ok (.iconst 1, 1)) ∧ (decode cL_law 224 = .ok (.iadd, 1)) ∧ (decode cL_law 225 = .ok (.iaload, 1)) ∧ (decode cL_law 226 = .ok (.invokevirtual 37, 3)) ∧ (decode cL_law 229 = .ok (.pop2, 1)) ∧ (decode cL_law 230 = .ok (.goto 997, 3)) ∧ (decode cL_law 233 = .ok (.aload_n 1, 1)) := by decide +kernel
theorem dL_law_216 : decode cL_law 216 = .ok (.invokevirtual 33, 3) := bdL_law_216.1
theorem dL_law_219 : decode cL_law 219 = .ok (.pop2, 1) := bdL_law_216.2.1
theorem dL_law_220 : decode cL_law 220 = .ok (.aload_n 2, 1) := bdL_law_216.2.2.1
theorem dL_law_221 : decode cL_law 221 = .ok (.aload_n 0, 1) := bdL_law_216.2.2.2.1
theorem dL_law_222 : decode cL_law 222 = .ok (.iload_n 3, 1) := bdL_law_216.2.2.2.2.1
theorem dL_law_223 : decode cL_law 223 = .ok (.iconst 1, 1) := bdL_law_216.2.2.2.2.2.1
theorem dL_law_224 : decode cL_law 224 = .ok (.iadd, 1) := bdL_law_216.2.2.2.2.2.2.1
theorem dL_law_225 : decode cL_law 225 = .ok (.iaload, 1) := bdL_law_216.2.2.2.2.2.2.2.1
theorem dL_law_226 : decode cL_law 226 = .ok (.invokevirtual 37, 3) := bdL_law_216.2.2.2.2.2.2.2.2.1
theorem dL_law_229 : decode cL_law 229 = .ok (.pop2, 1) := bdL_law_216.2.2.2.2.2.2.2.2.2.1
theorem dL_law_230 : decode cL_law 230 = .ok (.goto 997, 3) := bdL_law_216.2.2.2.2.2.2.2.2.2.2.1
theorem dL_law_233 : decode cL_law 233 = .ok (.aload_n 1, 1) := bdL_law_216.2.2.2.2.2.2.2.2.2.2.2
set_option maxRecDepth 20000 in
theorem bdL_law_234 : (decode cL_law 234 = .ok (.aload_n 0, 1)) ∧ (decode cL_law 235 = .ok (.iload_n 3, 1)) ∧ (decode cL_law 236 = .ok (.iconst 1, 1)) ∧ (decode cL_law 237 = .ok (.iadd, 1)) ∧ (decode cL_law 238 = .ok (.iaload, 1)) ∧ (decode cL_law 239 = .ok (.i2l, 1)) ∧ (decode cL_law 240 = .ok (.bipush 32, 2)) ∧ (decode cL_law 242 = .ok (.lshl, 1)) ∧ (decode cL_law 243 = .ok (.aload_n 0, 1)) ∧ (decode cL_law 244 = .ok (.iload_n 3, 1)) ∧ (decode cL_law 245 = .ok (.iconst 2, 1)) ∧ (decode cL_law 246 = .ok (.iadd, 1)) := by decide +kernel
theorem dL_law_234 : decode cL_law 234 = .ok (.aload_n 0, 1) := bdL_law_234.1
theorem dL_law_235 : decode cL_law 235 = .ok (.iload_n 3, 1) := bdL_law_234.2.1
theorem dL_law_236 : decode cL_law 236 = .ok (.iconst 1, 1) := bdL_law_234.2.2.1
theorem dL_law_237 : decode cL_law 237 = .ok (.iadd, 1) := bdL_law_234.2.2.2.1
theorem dL_law_238 : decode cL_law 238 = .ok (.iaload, 1) := bdL_law_234.2.2.2.2.1
theorem dL_law_239 : decode cL_law 239 = .ok (.i2l, 1) := bdL_law_234.2.2.2.2.2.1
theorem dL_law_240 : decode cL_law 240 = .ok (.bipush 32, 2) := bdL_law_234.2.2.2.2.2.2.1
theorem dL_law_242 : decode cL_law 242 = .ok (.lshl, 1) := bdL_law_234.2.2.2.2.2.2.2.1
theorem dL_law_243 : decode cL_law 243 = .ok (.aload_n 0, 1) := bdL_law_234.2.2.2.2.2.2.2.2.1
theorem dL_law_244 : decode cL_law 244 = .ok (.iload_n 3, 1) := bdL_law_234.2.2.2.2.2.2.2.2.2.1
theorem dL_law_245 : decode cL_law 245 = .ok (.iconst 2, 1) := bdL_law_234.2.2.2.2.2.2.2.2.2.2.1
theorem dL_law_246 : decode cL_law 246 = .ok (.iadd, 1) := bdL_law_234.2.2.2.2.2.2.2.2.2.2.2
set_option maxRecDepth 20000 in
theorem bdL_law_247 : (decode cL_law 247 = .ok (.iaload, 1)) ∧ (decode cL_law 248 = .ok (.i2l, 1)) ∧ (decode cL_law 249 = .ok (.ldc2_w 21, 3)) ∧ (decode cL_law 252 = .ok (.land, 1)) ∧ (decode cL_law 253 = .ok (.lor, 1)) ∧ (decode cL_law 254 = .ok (.aload_n 0, 1)) ∧ (decode cL_law 255 = .ok (.iload_n 3, 1)) ∧ (decode cL_law 256 = .ok (.iconst 3, 1)) ∧ (decode cL_law 257 = .ok (.iadd, 1)) ∧ (decode cL_law 258 = .ok (.iaload, 1)) ∧ (decode cL_law 259 = .ok (.aload_n 0, 1)) ∧ (decode cL_law 260 = .ok (.iload_n 3, 1)) := by decide +kernel
theorem dL_law_247 : decode cL_law 247 = .ok (.iaload, 1) := bdL_law_247.1
theorem dL_law_248 : decode cL_law 248 = .ok (.i2l, 1) := bdL_law_247.2.1
theorem dL_law_249 : decode cL_law 249 = .ok (.ldc2_w 21, 3) := bdL_law_247.2.2.1
theorem dL_law_252 : decode cL_law 252 = .ok (.land, 1) := bdL_law_247.2.2.2.1
theorem dL_law_253 : decode cL_law 253 = .ok (.lor, 1) := bdL_law_247.2.2.2.2.1
theorem dL_law_254 : decode cL_law 254 = .ok (.aload_n 0, 1) := bdL_law_247.2.2.2.2.2.1
theorem dL_law_255 : decode cL_law 255 = .ok (.iload_n 3, 1) := bdL_law_247.2.2.2.2.2.2.1
theorem dL_law_256 : decode cL_law 256 = .ok (.iconst 3, 1) := bdL_law_247.2.2.2.2.2.2.2.1
theorem dL_law_257 : decode cL_law 257 = .ok (.iadd, 1) := bdL_law_247.2.2.2.2.2.2.2.2.1
theorem dL_law_258 : decode cL_law 258 = .ok (.iaload, 1) := bdL_law_247.2.2.2.2.2.2.2.2.2.1
theorem dL_law_259 : decode cL_law 259 = .ok (.aload_n 0, 1) := bdL_law_247.2.2.2.2.2.2.2.2.2.2.1
theorem dL_law_260 : decode cL_law 260 = .ok (.iload_n 3, 1) := bdL_law_247.2.2.2.2.2.2.2.2.2.2.2
set_option maxRecDepth 20000 in
theorem bdL_law_261 : (decode cL_law 261 = .ok (.iconst 4, 1)) ∧ (decode cL_law 262 = .ok (.iadd, 1)) ∧ (decode cL_law 263 = .ok (.iaload, 1)) ∧ (decode cL_law 264 = .ok (.i2l, 1)) ∧ (decode cL_law 265 = .ok (.bipush 32, 2)) ∧ (decode cL_law 267 = .ok (.lshl, 1)) ∧ (decode cL_law 268 = .ok (.aload_n 0, 1)) ∧ (decode cL_law 269 = .ok (.iload_n 3, 1)) ∧ (decode cL_law 270 = .ok (.iconst 5, 1)) ∧ (decode cL_law 271 = .ok (.iadd, 1)) ∧ (decode cL_law 272 = .ok (.iaload, 1)) ∧ (decode cL_law 273 = .ok (.i2l, 1)) := by decide +kernel
theorem dL_law_261 : decode cL_law 261 = .ok (.iconst 4, 1) := bdL_law_261.1
theorem dL_law_262 : decode cL_law 262 = .ok (.iadd, 1) := bdL_law_261.2.1
theorem dL_law_263 : decode cL_law 263 = .ok (.iaload, 1) := bdL_law_261.2.2.1
theorem dL_law_264 : decode cL_law 264 = .ok (.i2l, 1) := bdL_law_261.2.2.2.1
theorem dL_law_265 : decode cL_law 265 = .ok (.bipush 32, 2) := bdL_law_261.2.2.2.2.1
theorem dL_law_267 : decode cL_law 267 = .ok (.lshl, 1) := bdL_law_261.2.2.2.2.2.1
theorem dL_law_268 : decode cL_law 268 = .ok (.aload_n 0, 1) := bdL_law_261.2.2.2.2.2.2.1
theorem dL_law_269 : decode cL_law 269 = .ok (.iload_n 3, 1) := bdL_law_261.2.2.2.2.2.2.2.1
theorem dL_law_270 : decode cL_law 270 = .ok (.iconst 5, 1) := bdL_law_261.2.2.2.2.2.2.2.2.1
theorem dL_law_271 : decode cL_law 271 = .ok (.iadd, 1) := bdL_law_261.2.2.2.2.2.2.2.2.2.1
theorem dL_law_272 : decode cL_law 272 = .ok (.iaload, 1) := bdL_law_261.2.2.2.2.2.2.2.2.2.2.1
theorem dL_law_273 : decode cL_law 273 = .ok (.i2l, 1) := bdL_law_261.2.2.2.2.2.2.2.2.2.2.2
set_option maxRecDepth 20000 in
theorem bdL_law_274 : (decode cL_law 274 = .ok (.ldc2_w 21, 3)) ∧ (decode cL_law 277 = .ok (.land, 1)) ∧ (decode cL_law 278 = .ok (.lor, 1)) ∧ (decode cL_law 279 = .ok (.invokevirtual 38, 3)) ∧ (decode cL_law 282 = .ok (.pop2, 1)) ∧ (decode cL_law 283 = .ok (.aload_n 2, 1)) ∧ (decode cL_law 284 = .ok (.aload_n 0, 1)) ∧ (decode cL_law 285 = .ok (.iload_n 3, 1)) ∧ (decode cL_law 286 = .ok (.iconst 1, 1)) ∧ (decode cL_law 287 = .ok (.iadd, 1)) ∧ (decode cL_law 288 = .ok (.iaload, 1)) ∧ (decode cL_law 289 = .ok (.i2l, 1)) := by decide +kernel
theorem dL_law_274 : decode cL_law 274 = .ok (.ldc2_w 21, 3) := bdL_law_274.1
theorem dL_law_277 : decode cL_law 277 = .ok (.land, 1) := bdL_law_274.2.1
theorem dL_law_278 : decode cL_law 278 = .ok (.lor, 1) := bdL_law_274.2.2.1
theorem dL_law_279 : decode cL_law 279 = .ok (.invokevirtual 38, 3) := bdL_law_274.2.2.2.1
theorem dL_law_282 : decode cL_law 282 = .ok (.pop2, 1) := bdL_law_274.2.2.2.2.1
theorem dL_law_283 : decode cL_law 283 = .ok (.aload_n 2, 1) := bdL_law_274.2.2.2.2.2.1
theorem dL_law_284 : decode cL_law 284 = .ok (.aload_n 0, 1) := bdL_law_274.2.2.2.2.2.2.1
theorem dL_law_285 : decode cL_law 285 = .ok (.iload_n 3, 1) := bdL_law_274.2.2.2.2.2.2.2.1
theorem dL_law_286 : decode cL_law 286 = .ok (.iconst 1, 1) := bdL_law_274.2.2.2.2.2.2.2.2.1
theorem dL_law_287 : decode cL_law 287 = .ok (.iadd, 1) := bdL_law_274.2.2.2.2.2.2.2.2.2.1
theorem dL_law_288 : decode cL_law 288 = .ok (.iaload, 1) := bdL_law_274.2.2.2.2.2.2.2.2.2.2.1
theorem dL_law_289 : decode cL_law 289 = .ok (.i2l, 1) := bdL_law_274.2.2.2.2.2.2.2.2.2.2.2
set_option maxRecDepth 20000 in
theorem bdL_law_290 : (decode cL_law 290 = .ok (.bipush 32, 2)) ∧ (decode cL_law 292 = .ok (.lshl, 1)) ∧ (decode cL_law 293 = .ok (.aload_n 0, 1)) ∧ (decode cL_law 294 = .ok (.iload_n 3, 1)) ∧ (decode cL_law 295 = .ok (.iconst 2, 1)) ∧ (decode cL_law 296 = .ok (.iadd, 1)) ∧ (decode cL_law 297 = .ok (.iaload, 1)) ∧ (decode cL_law 298 = .ok (.i2l, 1)) ∧ (decode cL_law 299 = .ok (.ldc2_w 21, 3)) ∧ (decode cL_law 302 = .ok (.land, 1)) ∧ (decode cL_law 303 = .ok (.lor, 1)) ∧ (decode cL_law 304 = .ok (.aload_n 0, 1)) := by decide +kernel
theorem dL_law_290 : decode cL_law 290 = .ok (.bipush 32, 2) := bdL_law_290.1
theorem dL_law_292 : decode cL_law 292 = .ok (.lshl, 1) := bdL_law_290.2.1
theorem dL_law_293 : decode cL_law 293 = .ok (.aload_n 0, 1) := bdL_law_290.2.2.1
theorem dL_law_294 : decode cL_law 294 = .ok (.iload_n 3, 1) := bdL_law_290.2.2.2.1
theorem dL_law_295 : decode cL_law 295 = .ok (.iconst 2, 1) := bdL_law_290.2.2.2.2.1
theorem dL_law_296 : decode cL_law 296 = .ok (.iadd, 1) := bdL_law_290.2.2.2.2.2.1
theorem dL_law_297 : decode cL_law 297 = .ok (.iaload, 1) := bdL_law_290.2.2.2.2.2.2.1
theorem dL_law_298 : decode cL_law 298 = .ok (.i2l, 1) := bdL_law_290.2.2.2.2.2.2.2.1
theorem dL_law_299 : decode cL_law 299 = .ok (.ldc2_w 21, 3) := bdL_law_290.2.2.2.2.2.2.2.2.1
theorem dL_law_302 : decode cL_law 302 = .ok (.land, 1) := bdL_law_290.2.2.2.2.2.2.2.2.2.1
theorem dL_law_303 : decode cL_law 303 = .ok (.lor, 1) := bdL_law_290.2.2.2.2.2.2.2.2.2.2.1
theorem dL_law_304 : decode cL_law 304 = .ok (.aload_n 0, 1) := bdL_law_290.2.2.2.2.2.2.2.2.2.2.2
set_option maxRecDepth 20000 in
theorem bdL_law_305 : (decode cL_law 305 = .ok (.iload_n 3, 1)) ∧ (decode cL_law 306 = .ok (.iconst 3, 1)) ∧ (decode cL_law 307 = .ok (.iadd, 1)) ∧ (decode cL_law 308 = .ok (.iaload, 1)) ∧ (decode cL_law 309 = .ok (.aload_n 0, 1)) ∧ (decode cL_law 310 = .ok (.iload_n 3, 1)) ∧ (decode cL_law 311 = .ok (.iconst 4, 1)) ∧ (decode cL_law 312 = .ok (.iadd, 1)) ∧ (decode cL_law 313 = .ok (.iaload, 1)) ∧ (decode cL_law 314 = .ok (.i2l, 1)) ∧ (decode cL_law 315 = .ok (.bipush 32, 2)) ∧ (decode cL_law 317 = .ok (.lshl, 1)) := by decide +kernel
theorem dL_law_305 : decode cL_law 305 = .ok (.iload_n 3, 1) := bdL_law_305.1
theorem dL_law_306 : decode cL_law 306 = .ok (.iconst 3, 1) := bdL_law_305.2.1
theorem dL_law_307 : decode cL_law 307 = .ok (.iadd, 1) := bdL_law_305.2.2.1
theorem dL_law_308 : decode cL_law 308 = .ok (.iaload, 1) := bdL_law_305.2.2.2.1
theorem dL_law_309 : decode cL_law 309 = .ok (.aload_n 0, 1) := bdL_law_305.2.2.2.2.1
theorem dL_law_310 : decode cL_law 310 = .ok (.iload_n 3, 1) := bdL_law_305.2.2.2.2.2.1
theorem dL_law_311 : decode cL_law 311 = .ok (.iconst 4, 1) := bdL_law_305.2.2.2.2.2.2.1
theorem dL_law_312 : decode cL_law 312 = .ok (.iadd, 1) := bdL_law_305.2.2.2.2.2.2.2.1
theorem dL_law_313 : decode cL_law 313 = .ok (.iaload, 1) := bdL_law_305.2.2.2.2.2.2.2.2.1
theorem dL_law_314 : decode cL_law 314 = .ok (.i2l, 1) := bdL_law_305.2.2.2.2.2.2.2.2.2.1
theorem dL_law_315 : decode cL_law 315 = .ok (.bipush 32, 2) := bdL_law_305.2.2.2.2.2.2.2.2.2.2.1
theorem dL_law_317 : decode cL_law 317 = .ok (.lshl, 1) := bdL_law_305.2.2.2.2.2.2.2.2.2.2.2
set_option maxRecDepth 20000 in
theorem bdL_law_318 : (decode cL_law 318 = .ok (.aload_n 0, 1)) ∧ (decode cL_law 319 = .ok (.iload_n 3, 1)) ∧ (decode cL_law 320 = .ok (.iconst 5, 1)) ∧ (decode cL_law 321 = .ok (.iadd, 1)) ∧ (decode cL_law 322 = .ok (.iaload, 1)) ∧ (decode cL_law 323 = .ok (.i2l, 1)) ∧ (decode cL_law 324 = .ok (.ldc2_w 21, 3)) ∧ (decode cL_law 327 = .ok (.land, 1)) ∧ (decode cL_law 328 = .ok (.lor, 1)) ∧ (decode cL_law 329 = .ok (.invokevirtual 42, 3)) ∧ (decode cL_law 332 = .ok (.pop2, 1)) ∧ (decode cL_law 333 = .ok (.goto 894, 3)) := by decide +kernel
theorem dL_law_318 : decode cL_law 318 = .ok (.aload_n 0, 1) := bdL_law_318.1
theorem dL_law_319 : decode cL_law 319 = .ok (.iload_n 3, 1) := bdL_law_318.2.1
theorem dL_law_320 : decode cL_law 320 = .ok (.iconst 5, 1) := bdL_law_318.2.2.1
theorem dL_law_321 : decode cL_law 321 = .ok (.iadd, 1) := bdL_law_318.2.2.2.1
theorem dL_law_322 : decode cL_law 322 = .ok (.iaload, 1) := bdL_law_318.2.2.2.2.1
theorem dL_law_323 : decode cL_law 323 = .ok (.i2l, 1) := bdL_law_318.2.2.2.2.2.1
theorem dL_law_324 : decode cL_law 324 = .ok (.ldc2_w 21, 3) := bdL_law_318.2.2.2.2.2.2.1
theorem dL_law_327 : decode cL_law 327 = .ok (.land, 1) := bdL_law_318.2.2.2.2.2.2.2.1
theorem dL_law_328 : decode cL_law 328 = .ok (.lor, 1) := bdL_law_318.2.2.2.2.2.2.2.2.1
theorem dL_law_329 : decode cL_law 329 = .ok (.invokevirtual 42, 3) := bdL_law_318.2.2.2.2.2.2.2.2.2.1
theorem dL_law_332 : decode cL_law 332 = .ok (.pop2, 1) := bdL_law_318.2.2.2.2.2.2.2.2.2.2.1
theorem dL_law_333 : decode cL_law 333 = .ok (.goto 894, 3) := bdL_law_318.2.2.2.2.2.2.2.2.2.2.2
set_option maxRecDepth 20000 in
theorem bdL_law_336 : (decode cL_law 336 = .ok (.aload_n 1, 1)) ∧ (decode cL_law 337 = .ok (.aload_n 0, 1)) ∧ (decode cL_law 338 = .ok (.iload_n 3, 1)) ∧ (decode cL_law 339 = .ok (.iconst 1, 1)) ∧ (decode cL_law 340 = .ok (.iadd, 1)) ∧ (decode cL_law 341 = .ok (.iaload, 1)) ∧ (decode cL_law 342 = .ok (.i2l, 1)) ∧ (decode cL_law 343 = .ok (.bipush 32, 2)) ∧ (decode cL_law 345 = .ok (.lshl, 1)) ∧ (decode cL_law 346 = .ok (.aload_n 0, 1)) ∧ (decode cL_law 347 = .ok (.iload_n 3, 1)) ∧ (decode cL_law 348 = .ok (.iconst 2, 1)) := by decide +kernel
theorem dL_law_336 : decode cL_law 336 = .ok (.aload_n 1, 1) := bdL_law_336.1
theorem dL_law_337 : decode cL_law 337 = .ok (.aload_n 0, 1) := bdL_law_336.2.1
theorem dL_law_338 : decode cL_law 338 = .ok (.iload_n 3, 1) := bdL_law_336.2.2.1
theorem dL_law_339 : decode cL_law 339 = .ok (.iconst 1, 1) := bdL_law_336.2.2.2.1
theorem dL_law_340 : decode cL_law 340 = .ok (.iadd, 1) := bdL_law_336.2.2.2.2.1
theorem dL_law_341 : decode cL_law 341 = .ok (.iaload, 1) := bdL_law_336.2.2.2.2.2.1
theorem dL_law_342 : decode cL_law 342 = .ok (.i2l, 1) := bdL_law_336.2.2.2.2.2.2.1
theorem dL_law_343 : decode cL_law 343 = .ok (.bipush 32, 2) := bdL_law_336.2.2.2.2.2.2.2.1
theorem dL_law_345 : decode cL_law 345 = .ok (.lshl, 1) := bdL_law_336.2.2.2.2.2.2.2.2.1
theorem dL_law_346 : decode cL_law 346 = .ok (.aload_n 0, 1) := bdL_law_336.2.2.2.2.2.2.2.2.2.1
theorem dL_law_347 : decode cL_law 347 = .ok (.iload_n 3, 1) := bdL_law_336.2.2.2.2.2.2.2.2.2.2.1
theorem dL_law_348 : decode cL_law 348 = .ok (.iconst 2, 1) := bdL_law_336.2.2.2.2.2.2.2.2.2.2.2
set_option maxRecDepth 20000 in
theorem bdL_law_349 : (decode cL_law 349 = .ok (.iadd, 1)) ∧ (decode cL_law 350 = .ok (.iaload, 1)) ∧ (decode cL_law 351 = .ok (.i2l, 1)) ∧ (decode cL_law 352 = .ok (.ldc2_w 21, 3)) ∧ (decode cL_law 355 = .ok (.land, 1)) ∧ (decode cL_law 356 = .ok (.lor, 1)) ∧ (decode cL_law 357 = .ok (.aload_n 0, 1)) ∧ (decode cL_law 358 = .ok (.iload_n 3, 1)) ∧ (decode cL_law 359 = .ok (.iconst 3, 1)) ∧ (decode cL_law 360 = .ok (.iadd, 1)) ∧ (decode cL_law 361 = .ok (.iaload, 1)) ∧ (decode cL_law 362 = .ok (.aload_n 0, 1)) := by decide +kernel
theorem dL_law_349 : decode cL_law 349 = .ok (.iadd, 1) := bdL_law_349.1
theorem dL_law_350 : decode cL_law 350 = .ok (.iaload, 1) := bdL_law_349.2.1
theorem dL_law_351 : decode cL_law 351 = .ok (.i2l, 1) := bdL_law_349.2.2.1
theorem dL_law_352 : decode cL_law 352 = .ok (.ldc2_w 21, 3) := bdL_law_349.2.2.2.1
theorem dL_law_355 : decode cL_law 355 = .ok (.land, 1) := bdL_law_349.2.2.2.2.1
theorem dL_law_356 : decode cL_law 356 = .ok (.lor, 1) := bdL_law_349.2.2.2.2.2.1
theorem dL_law_357 : decode cL_law 357 = .ok (.aload_n 0, 1) := bdL_law_349.2.2.2.2.2.2.1
theorem dL_law_358 : decode cL_law 358 = .ok (.iload_n 3, 1) := bdL_law_349.2.2.2.2.2.2.2.1
theorem dL_law_359 : decode cL_law 359 = .ok (.iconst 3, 1) := bdL_law_349.2.2.2.2.2.2.2.2.1
theorem dL_law_360 : decode cL_law 360 = .ok (.iadd, 1) := bdL_law_349.2.2.2.2.2.2.2.2.2.1
theorem dL_law_361 : decode cL_law 361 = .ok (.iaload, 1) := bdL_law_349.2.2.2.2.2.2.2.2.2.2.1
theorem dL_law_362 : decode cL_law 362 = .ok (.aload_n 0, 1) := bdL_law_349.2.2.2.2.2.2.2.2.2.2.2
set_option maxRecDepth 20000 in
theorem bdL_law_363 : (decode cL_law 363 = .ok (.iload_n 3, 1)) ∧ (decode cL_law 364 = .ok (.iconst 4, 1)) ∧ (decode cL_law 365 = .ok (.iadd, 1)) ∧ (decode cL_law 366 = .ok (.iaload, 1)) ∧ (decode cL_law 367 = .ok (.aload_n 0, 1)) ∧ (decode cL_law 368 = .ok (.iload_n 3, 1)) ∧ (decode cL_law 369 = .ok (.iconst 5, 1)) ∧ (decode cL_law 370 = .ok (.iadd, 1)) ∧ (decode cL_law 371 = .ok (.iaload, 1)) ∧ (decode cL_law 372 = .ok (.i2l, 1)) ∧ (decode cL_law 373 = .ok (.bipush 32, 2)) ∧ (decode cL_law 375 = .ok (.lshl, 1)) := by decide +kernel
theorem dL_law_363 : decode cL_law 363 = .ok (.iload_n 3, 1) := bdL_law_363.1
theorem dL_law_364 : decode cL_law 364 = .ok (.iconst 4, 1) := bdL_law_363.2.1
theorem dL_law_365 : decode cL_law 365 = .ok (.iadd, 1) := bdL_law_363.2.2.1
theorem dL_law_366 : decode cL_law 366 = .ok (.iaload, 1) := bdL_law_363.2.2.2.1
theorem dL_law_367 : decode cL_law 367 = .ok (.aload_n 0, 1) := bdL_law_363.2.2.2.2.1
theorem dL_law_368 : decode cL_law 368 = .ok (.iload_n 3, 1) := bdL_law_363.2.2.2.2.2.1
theorem dL_law_369 : decode cL_law 369 = .ok (.iconst 5, 1) := bdL_law_363.2.2.2.2.2.2.1
theorem dL_law_370 : decode cL_law 370 = .ok (.iadd, 1) := bdL_law_363.2.2.2.2.2.2.2.1
theorem dL_law_371 : decode cL_law 371 = .ok (.iaload, 1) := bdL_law_363.2.2.2.2.2.2.2.2.1
theorem dL_law_372 : decode cL_law 372 = .ok (.i2l, 1) := bdL_law_363.2.2.2.2.2.2.2.2.2.1
theorem dL_law_373 : decode cL_law 373 = .ok (.bipush 32, 2) := bdL_law_363.2.2.2.2.2.2.2.2.2.2.1
theorem dL_law_375 : decode cL_law 375 = .ok (.lshl, 1) := bdL_law_363.2.2.2.2.2.2.2.2.2.2.2
set_option maxRecDepth 20000 in
theorem bdL_law_376 : (decode cL_law 376 = .ok (.aload_n 0, 1)) ∧ (decode cL_law 377 = .ok (.iload_n 3, 1)) ∧ (decode cL_law 378 = .ok (.bipush 6, 2)) ∧ (decode cL_law 380 = .ok (.iadd, 1)) ∧ (decode cL_law 381 = .ok (.iaload, 1)) ∧ (decode cL_law 382 = .ok (.i2l, 1)) ∧ (decode cL_law 383 = .ok (.ldc2_w 21, 3)) ∧ (decode cL_law 386 = .ok (.land, 1)) ∧ (decode cL_law 387 = .ok (.lor, 1)) ∧ (decode cL_law 388 = .ok (.invokevirtual 43, 3)) ∧ (decode cL_law 391 = .ok (.pop2, 1)) ∧ (decode cL_law 392 = .ok (.aload_n 2, 1)) := by decide +kernel
theorem dL_law_376 : decode cL_law 376 = .ok (.aload_n 0, 1) := bdL_law_376.1
theorem dL_law_377 : decode cL_law 377 = .ok (.iload_n 3, 1) := bdL_law_376.2.1
theorem dL_law_378 : decode cL_law 378 = .ok (.bipush 6, 2) := bdL_law_376.2.2.1
theorem dL_law_380 : decode cL_law 380 = .ok (.iadd, 1) := bdL_law_376.2.2.2.1
theorem dL_law_381 : decode cL_law 381 = .ok (.iaload, 1) := bdL_law_376.2.2.2.2.1
theorem dL_law_382 : decode cL_law 382 = .ok (.i2l, 1) := bdL_law_376.2.2.2.2.2.1
theorem dL_law_383 : decode cL_law 383 = .ok (.ldc2_w 21, 3) := bdL_law_376.2.2.2.2.2.2.1
theorem dL_law_386 : decode cL_law 386 = .ok (.land, 1) := bdL_law_376.2.2.2.2.2.2.2.1
theorem dL_law_387 : decode cL_law 387 = .ok (.lor, 1) := bdL_law_376.2.2.2.2.2.2.2.2.1
theorem dL_law_388 : decode cL_law 388 = .ok (.invokevirtual 43, 3) := bdL_law_376.2.2.2.2.2.2.2.2.2.1
theorem dL_law_391 : decode cL_law 391 = .ok (.pop2, 1) := bdL_law_376.2.2.2.2.2.2.2.2.2.2.1
theorem dL_law_392 : decode cL_law 392 = .ok (.aload_n 2, 1) := bdL_law_376.2.2.2.2.2.2.2.2.2.2.2
set_option maxRecDepth 20000 in
theorem bdL_law_393 : (decode cL_law 393 = .ok (.aload_n 0, 1)) ∧ (decode cL_law 394 = .ok (.iload_n 3, 1)) ∧ (decode cL_law 395 = .ok (.iconst 1, 1)) ∧ (decode cL_law 396 = .ok (.iadd, 1)) ∧ (decode cL_law 397 = .ok (.iaload, 1)) ∧ (decode cL_law 398 = .ok (.i2l, 1)) ∧ (decode cL_law 399 = .ok (.bipush 32, 2)) ∧ (decode cL_law 401 = .ok (.lshl, 1)) ∧ (decode cL_law 402 = .ok (.aload_n 0, 1)) ∧ (decode cL_law 403 = .ok (.iload_n 3, 1)) ∧ (decode cL_law 404 = .ok (.iconst 2, 1)) ∧ (decode cL_law 405 = .ok (.iadd, 1)) := by decide +kernel
theorem dL_law_393 : decode cL_law 393 = .ok (.aload_n 0, 1) := bdL_law_393.1
theorem dL_law_394 : decode cL_law 394 = .ok (.iload_n 3, 1) := bdL_law_393.2.1
theorem dL_law_395 : decode cL_law 395 = .ok (.iconst 1, 1) := bdL_law_393.2.2.1
theorem dL_law_396 : decode cL_law 396 = .ok (.iadd, 1) := bdL_law_393.2.2.2.1
theorem dL_law_397 : decode cL_law 397 = .ok (.iaload, 1) := bdL_law_393.2.2.2.2.1
theorem dL_law_398 : decode cL_law 398 = .ok (.i2l, 1) := bdL_law_393.2.2.2.2.2.1
theorem dL_law_399 : decode cL_law 399 = .ok (.bipush 32, 2) := bdL_law_393.2.2.2.2.2.2.1
theorem dL_law_401 : decode cL_law 401 = .ok (.lshl, 1) := bdL_law_393.2.2.2.2.2.2.2.1
theorem dL_law_402 : decode cL_law 402 = .ok (.aload_n 0, 1) := bdL_law_393.2.2.2.2.2.2.2.2.1
theorem dL_law_403 : decode cL_law 403 = .ok (.iload_n 3, 1) := bdL_law_393.2.2.2.2.2.2.2.2.2.1
theorem dL_law_404 : decode cL_law 404 = .ok (.iconst 2, 1) := bdL_law_393.2.2.2.2.2.2.2.2.2.2.1
theorem dL_law_405 : decode cL_law 405 = .ok (.iadd, 1) := bdL_law_393.2.2.2.2.2.2.2.2.2.2.2
set_option maxRecDepth 20000 in
theorem bdL_law_406 : (decode cL_law 406 = .ok (.iaload, 1)) ∧ (decode cL_law 407 = .ok (.i2l, 1)) ∧ (decode cL_law 408 = .ok (.ldc2_w 21, 3)) ∧ (decode cL_law 411 = .ok (.land, 1)) ∧ (decode cL_law 412 = .ok (.lor, 1)) ∧ (decode cL_law 413 = .ok (.aload_n 0, 1)) ∧ (decode cL_law 414 = .ok (.iload_n 3, 1)) ∧ (decode cL_law 415 = .ok (.iconst 3, 1)) ∧ (decode cL_law 416 = .ok (.iadd, 1)) ∧ (decode cL_law 417 = .ok (.iaload, 1)) ∧ (decode cL_law 418 = .ok (.aload_n 0, 1)) ∧ (decode cL_law 419 = .ok (.iload_n 3, 1)) := by decide +kernel
theorem dL_law_406 : decode cL_law 406 = .ok (.iaload, 1) := bdL_law_406.1
theorem dL_law_407 : decode cL_law 407 = .ok (.i2l, 1) := bdL_law_406.2.1
theorem dL_law_408 : decode cL_law 408 = .ok (.ldc2_w 21, 3) := bdL_law_406.2.2.1
theorem dL_law_411 : decode cL_law 411 = .ok (.land, 1) := bdL_law_406.2.2.2.1
theorem dL_law_412 : decode cL_law 412 = .ok (.lor, 1) := bdL_law_406.2.2.2.2.1
theorem dL_law_413 : decode cL_law 413 = .ok (.aload_n 0, 1) := bdL_law_406.2.2.2.2.2.1
theorem dL_law_414 : decode cL_law 414 = .ok (.iload_n 3, 1) := bdL_law_406.2.2.2.2.2.2.1
theorem dL_law_415 : decode cL_law 415 = .ok (.iconst 3, 1) := bdL_law_406.2.2.2.2.2.2.2.1
theorem dL_law_416 : decode cL_law 416 = .ok (.iadd, 1) := bdL_law_406.2.2.2.2.2.2.2.2.1
theorem dL_law_417 : decode cL_law 417 = .ok (.iaload, 1) := bdL_law_406.2.2.2.2.2.2.2.2.2.1
theorem dL_law_418 : decode cL_law 418 = .ok (.aload_n 0, 1) := bdL_law_406.2.2.2.2.2.2.2.2.2.2.1
theorem dL_law_419 : decode cL_law 419 = .ok (.iload_n 3, 1) := bdL_law_406.2.2.2.2.2.2.2.2.2.2.2
set_option maxRecDepth 20000 in
theorem bdL_law_420 : (decode cL_law 420 = .ok (.iconst 4, 1)) ∧ (decode cL_law 421 = .ok (.iadd, 1)) ∧ (decode cL_law 422 = .ok (.iaload, 1)) ∧ (decode cL_law 423 = .ok (.aload_n 0, 1)) ∧ (decode cL_law 424 = .ok (.iload_n 3, 1)) ∧ (decode cL_law 425 = .ok (.iconst 5, 1)) ∧ (decode cL_law 426 = .ok (.iadd, 1)) ∧ (decode cL_law 427 = .ok (.iaload, 1)) ∧ (decode cL_law 428 = .ok (.i2l, 1)) ∧ (decode cL_law 429 = .ok (.bipush 32, 2)) ∧ (decode cL_law 431 = .ok (.lshl, 1)) ∧ (decode cL_law 432 = .ok (.aload_n 0, 1)) := by decide +kernel
theorem dL_law_420 : decode cL_law 420 = .ok (.iconst 4, 1) := bdL_law_420.1
theorem dL_law_421 : decode cL_law 421 = .ok (.iadd, 1) := bdL_law_420.2.1
theorem dL_law_422 : decode cL_law 422 = .ok (.iaload, 1) := bdL_law_420.2.2.1
theorem dL_law_423 : decode cL_law 423 = .ok (.aload_n 0, 1) := bdL_law_420.2.2.2.1
theorem dL_law_424 : decode cL_law 424 = .ok (.iload_n 3, 1) := bdL_law_420.2.2.2.2.1
theorem dL_law_425 : decode cL_law 425 = .ok (.iconst 5, 1) := bdL_law_420.2.2.2.2.2.1
theorem dL_law_426 : decode cL_law 426 = .ok (.iadd, 1) := bdL_law_420.2.2.2.2.2.2.1
theorem dL_law_427 : decode cL_law 427 = .ok (.iaload, 1) := bdL_law_420.2.2.2.2.2.2.2.1
theorem dL_law_428 : decode cL_law 428 = .ok (.i2l, 1) := bdL_law_420.2.2.2.2.2.2.2.2.1
theorem dL_law_429 : decode cL_law 429 = .ok (.bipush 32, 2) := bdL_law_420.2.2.2.2.2.2.2.2.2.1
theorem dL_law_431 : decode cL_law 431 = .ok (.lshl, 1) := bdL_law_420.2.2.2.2.2.2.2.2.2.2.1
theorem dL_law_432 : decode cL_law 432 = .ok (.aload_n 0, 1) := bdL_law_420.2.2.2.2.2.2.2.2.2.2.2
set_option maxRecDepth 20000 in
theorem bdL_law_433 : (decode cL_law 433 = .ok (.iload_n 3, 1)) ∧ (decode cL_law 434 = .ok (.bipush 6, 2)) ∧ (decode cL_law 436 = .ok (.iadd, 1)) ∧ (decode cL_law 437 = .ok (.iaload, 1)) ∧ (decode cL_law 438 = .ok (.i2l, 1)) ∧ (decode cL_law 439 = .ok (.ldc2_w 21, 3)) ∧ (decode cL_law 442 = .ok (.land, 1)) ∧ (decode cL_law 443 = .ok (.lor, 1)) ∧ (decode cL_law 444 = .ok (.invokevirtual 47, 3)) ∧ (decode cL_law 447 = .ok (.pop2, 1)) ∧ (decode cL_law 448 = .ok (.goto 779, 3)) ∧ (decode cL_law 451 = .ok (.aload_n 1, 1)) := by decide +kernel
theorem dL_law_433 : decode cL_law 433 = .ok (.iload_n 3, 1) := bdL_law_433.1
theorem dL_law_434 : decode cL_law 434 = .ok (.bipush 6, 2) := bdL_law_433.2.1
theorem dL_law_436 : decode cL_law 436 = .ok (.iadd, 1) := bdL_law_433.2.2.1
theorem dL_law_437 : decode cL_law 437 = .ok (.iaload, 1) := bdL_law_433.2.2.2.1
theorem dL_law_438 : decode cL_law 438 = .ok (.i2l, 1) := bdL_law_433.2.2.2.2.1
theorem dL_law_439 : decode cL_law 439 = .ok (.ldc2_w 21, 3) := bdL_law_433.2.2.2.2.2.1
theorem dL_law_442 : decode cL_law 442 = .ok (.land, 1) := bdL_law_433.2.2.2.2.2.2.1
theorem dL_law_443 : decode cL_law 443 = .ok (.lor, 1) := bdL_law_433.2.2.2.2.2.2.2.1
theorem dL_law_444 : decode cL_law 444 = .ok (.invokevirtual 47, 3) := bdL_law_433.2.2.2.2.2.2.2.2.1
theorem dL_law_447 : decode cL_law 447 = .ok (.pop2, 1) := bdL_law_433.2.2.2.2.2.2.2.2.2.1
theorem dL_law_448 : decode cL_law 448 = .ok (.goto 779, 3) := bdL_law_433.2.2.2.2.2.2.2.2.2.2.1
theorem dL_law_451 : decode cL_law 451 = .ok (.aload_n 1, 1) := bdL_law_433.2.2.2.2.2.2.2.2.2.2.2
set_option maxRecDepth 20000 in
theorem bdL_law_452 : (decode cL_law 452 = .ok (.aload_n 0, 1)) ∧ (decode cL_law 453 = .ok (.iload_n 3, 1)) ∧ (decode cL_law 454 = .ok (.iconst 1, 1)) ∧ (decode cL_law 455 = .ok (.iadd, 1)) ∧ (decode cL_law 456 = .ok (.iaload, 1)) ∧ (decode cL_law 457 = .ok (.i2l, 1)) ∧ (decode cL_law 458 = .ok (.bipush 32, 2)) ∧ (decode cL_law 460 = .ok (.lshl, 1)) ∧ (decode cL_law 461 = .ok (.aload_n 0, 1)) ∧ (decode cL_law 462 = .ok (.iload_n 3, 1)) ∧ (decode cL_law 463 = .ok (.iconst 2, 1)) ∧ (decode cL_law 464 = .ok (.iadd, 1)) := by decide +kernel
theorem dL_law_452 : decode cL_law 452 = .ok (.aload_n 0, 1) := bdL_law_452.1
theorem dL_law_453 : decode cL_law 453 = .ok (.iload_n 3, 1) := bdL_law_452.2.1
theorem dL_law_454 : decode cL_law 454 = .ok (.iconst 1, 1) := bdL_law_452.2.2.1
theorem dL_law_455 : decode cL_law 455 = .ok (.iadd, 1) := bdL_law_452.2.2.2.1
theorem dL_law_456 : decode cL_law 456 = .ok (.iaload, 1) := bdL_law_452.2.2.2.2.1
theorem dL_law_457 : decode cL_law 457 = .ok (.i2l, 1) := bdL_law_452.2.2.2.2.2.1
theorem dL_law_458 : decode cL_law 458 = .ok (.bipush 32, 2) := bdL_law_452.2.2.2.2.2.2.1
theorem dL_law_460 : decode cL_law 460 = .ok (.lshl, 1) := bdL_law_452.2.2.2.2.2.2.2.1
theorem dL_law_461 : decode cL_law 461 = .ok (.aload_n 0, 1) := bdL_law_452.2.2.2.2.2.2.2.2.1
theorem dL_law_462 : decode cL_law 462 = .ok (.iload_n 3, 1) := bdL_law_452.2.2.2.2.2.2.2.2.2.1
theorem dL_law_463 : decode cL_law 463 = .ok (.iconst 2, 1) := bdL_law_452.2.2.2.2.2.2.2.2.2.2.1
theorem dL_law_464 : decode cL_law 464 = .ok (.iadd, 1) := bdL_law_452.2.2.2.2.2.2.2.2.2.2.2
set_option maxRecDepth 20000 in
theorem bdL_law_465 : (decode cL_law 465 = .ok (.iaload, 1)) ∧ (decode cL_law 466 = .ok (.i2l, 1)) ∧ (decode cL_law 467 = .ok (.ldc2_w 21, 3)) ∧ (decode cL_law 470 = .ok (.land, 1)) ∧ (decode cL_law 471 = .ok (.lor, 1)) ∧ (decode cL_law 472 = .ok (.aload_n 0, 1)) ∧ (decode cL_law 473 = .ok (.iload_n 3, 1)) ∧ (decode cL_law 474 = .ok (.iconst 3, 1)) ∧ (decode cL_law 475 = .ok (.iadd, 1)) ∧ (decode cL_law 476 = .ok (.iaload, 1)) ∧ (decode cL_law 477 = .ok (.aload_n 0, 1)) ∧ (decode cL_law 478 = .ok (.iload_n 3, 1)) := by decide +kernel
theorem dL_law_465 : decode cL_law 465 = .ok (.iaload, 1) := bdL_law_465.1
theorem dL_law_466 : decode cL_law 466 = .ok (.i2l, 1) := bdL_law_465.2.1
theorem dL_law_467 : decode cL_law 467 = .ok (.ldc2_w 21, 3) := bdL_law_465.2.2.1
theorem dL_law_470 : decode cL_law 470 = .ok (.land, 1) := bdL_law_465.2.2.2.1
theorem dL_law_471 : decode cL_law 471 = .ok (.lor, 1) := bdL_law_465.2.2.2.2.1
theorem dL_law_472 : decode cL_law 472 = .ok (.aload_n 0, 1) := bdL_law_465.2.2.2.2.2.1
theorem dL_law_473 : decode cL_law 473 = .ok (.iload_n 3, 1) := bdL_law_465.2.2.2.2.2.2.1
theorem dL_law_474 : decode cL_law 474 = .ok (.iconst 3, 1) := bdL_law_465.2.2.2.2.2.2.2.1
theorem dL_law_475 : decode cL_law 475 = .ok (.iadd, 1) := bdL_law_465.2.2.2.2.2.2.2.2.1
theorem dL_law_476 : decode cL_law 476 = .ok (.iaload, 1) := bdL_law_465.2.2.2.2.2.2.2.2.2.1
theorem dL_law_477 : decode cL_law 477 = .ok (.aload_n 0, 1) := bdL_law_465.2.2.2.2.2.2.2.2.2.2.1
theorem dL_law_478 : decode cL_law 478 = .ok (.iload_n 3, 1) := bdL_law_465.2.2.2.2.2.2.2.2.2.2.2
set_option maxRecDepth 20000 in
theorem bdL_law_479 : (decode cL_law 479 = .ok (.iconst 4, 1)) ∧ (decode cL_law 480 = .ok (.iadd, 1)) ∧ (decode cL_law 481 = .ok (.iaload, 1)) ∧ (decode cL_law 482 = .ok (.aload_n 0, 1)) ∧ (decode cL_law 483 = .ok (.iload_n 3, 1)) ∧ (decode cL_law 484 = .ok (.iconst 5, 1)) ∧ (decode cL_law 485 = .ok (.iadd, 1)) ∧ (decode cL_law 486 = .ok (.iaload, 1)) ∧ (decode cL_law 487 = .ok (.i2l, 1)) ∧ (decode cL_law 488 = .ok (.bipush 32, 2)) ∧ (decode cL_law 490 = .ok (.lshl, 1)) ∧ (decode cL_law 491 = .ok (.aload_n 0, 1)) := by decide +kernel
theorem dL_law_479 : decode cL_law 479 = .ok (.iconst 4, 1) := bdL_law_479.1
theorem dL_law_480 : decode cL_law 480 = .ok (.iadd, 1) := bdL_law_479.2.1
theorem dL_law_481 : decode cL_law 481 = .ok (.iaload, 1) := bdL_law_479.2.2.1
theorem dL_law_482 : decode cL_law 482 = .ok (.aload_n 0, 1) := bdL_law_479.2.2.2.1
theorem dL_law_483 : decode cL_law 483 = .ok (.iload_n 3, 1) := bdL_law_479.2.2.2.2.1
theorem dL_law_484 : decode cL_law 484 = .ok (.iconst 5, 1) := bdL_law_479.2.2.2.2.2.1
theorem dL_law_485 : decode cL_law 485 = .ok (.iadd, 1) := bdL_law_479.2.2.2.2.2.2.1
theorem dL_law_486 : decode cL_law 486 = .ok (.iaload, 1) := bdL_law_479.2.2.2.2.2.2.2.1
theorem dL_law_487 : decode cL_law 487 = .ok (.i2l, 1) := bdL_law_479.2.2.2.2.2.2.2.2.1
theorem dL_law_488 : decode cL_law 488 = .ok (.bipush 32, 2) := bdL_law_479.2.2.2.2.2.2.2.2.2.1
theorem dL_law_490 : decode cL_law 490 = .ok (.lshl, 1) := bdL_law_479.2.2.2.2.2.2.2.2.2.2.1
theorem dL_law_491 : decode cL_law 491 = .ok (.aload_n 0, 1) := bdL_law_479.2.2.2.2.2.2.2.2.2.2.2
set_option maxRecDepth 20000 in
theorem bdL_law_492 : (decode cL_law 492 = .ok (.iload_n 3, 1)) ∧ (decode cL_law 493 = .ok (.bipush 6, 2)) ∧ (decode cL_law 495 = .ok (.iadd, 1)) ∧ (decode cL_law 496 = .ok (.iaload, 1)) ∧ (decode cL_law 497 = .ok (.i2l, 1)) ∧ (decode cL_law 498 = .ok (.ldc2_w 21, 3)) ∧ (decode cL_law 501 = .ok (.land, 1)) ∧ (decode cL_law 502 = .ok (.lor, 1)) ∧ (decode cL_law 503 = .ok (.aload_n 0, 1)) ∧ (decode cL_law 504 = .ok (.iload_n 3, 1)) ∧ (decode cL_law 505 = .ok (.bipush 7, 2)) ∧ (decode cL_law 507 = .ok (.iadd, 1)) := by decide +kernel
theorem dL_law_492 : decode cL_law 492 = .ok (.iload_n 3, 1) := bdL_law_492.1
theorem dL_law_493 : decode cL_law 493 = .ok (.bipush 6, 2) := bdL_law_492.2.1
theorem dL_law_495 : decode cL_law 495 = .ok (.iadd, 1) := bdL_law_492.2.2.1
theorem dL_law_496 : decode cL_law 496 = .ok (.iaload, 1) := bdL_law_492.2.2.2.1
theorem dL_law_497 : decode cL_law 497 = .ok (.i2l, 1) := bdL_law_492.2.2.2.2.1
theorem dL_law_498 : decode cL_law 498 = .ok (.ldc2_w 21, 3) := bdL_law_492.2.2.2.2.2.1
theorem dL_law_501 : decode cL_law 501 = .ok (.land, 1) := bdL_law_492.2.2.2.2.2.2.1
theorem dL_law_502 : decode cL_law 502 = .ok (.lor, 1) := bdL_law_492.2.2.2.2.2.2.2.1
theorem dL_law_503 : decode cL_law 503 = .ok (.aload_n 0, 1) := bdL_law_492.2.2.2.2.2.2.2.2.1
theorem dL_law_504 : decode cL_law 504 = .ok (.iload_n 3, 1) := bdL_law_492.2.2.2.2.2.2.2.2.2.1
theorem dL_law_505 : decode cL_law 505 = .ok (.bipush 7, 2) := bdL_law_492.2.2.2.2.2.2.2.2.2.2.1
theorem dL_law_507 : decode cL_law 507 = .ok (.iadd, 1) := bdL_law_492.2.2.2.2.2.2.2.2.2.2.2
set_option maxRecDepth 20000 in
theorem bdL_law_508 : (decode cL_law 508 = .ok (.iaload, 1)) ∧ (decode cL_law 509 = .ok (.i2l, 1)) ∧ (decode cL_law 510 = .ok (.bipush 32, 2)) ∧ (decode cL_law 512 = .ok (.lshl, 1)) ∧ (decode cL_law 513 = .ok (.aload_n 0, 1)) ∧ (decode cL_law 514 = .ok (.iload_n 3, 1)) ∧ (decode cL_law 515 = .ok (.bipush 8, 2)) ∧ (decode cL_law 517 = .ok (.iadd, 1)) ∧ (decode cL_law 518 = .ok (.iaload, 1)) ∧ (decode cL_law 519 = .ok (.i2l, 1)) ∧ (decode cL_law 520 = .ok (.ldc2_w 21, 3)) ∧ (decode cL_law 523 = .ok (.land, 1)) := by decide +kernel
theorem dL_law_508 : decode cL_law 508 = .ok (.iaload, 1) := bdL_law_508.1
theorem dL_law_509 : decode cL_law 509 = .ok (.i2l, 1) := bdL_law_508.2.1
theorem dL_law_510 : decode cL_law 510 = .ok (.bipush 32, 2) := bdL_law_508.2.2.1
theorem dL_law_512 : decode cL_law 512 = .ok (.lshl, 1) := bdL_law_508.2.2.2.1
theorem dL_law_513 : decode cL_law 513 = .ok (.aload_n 0, 1) := bdL_law_508.2.2.2.2.1
theorem dL_law_514 : decode cL_law 514 = .ok (.iload_n 3, 1) := bdL_law_508.2.2.2.2.2.1
theorem dL_law_515 : decode cL_law 515 = .ok (.bipush 8, 2) := bdL_law_508.2.2.2.2.2.2.1
theorem dL_law_517 : decode cL_law 517 = .ok (.iadd, 1) := bdL_law_508.2.2.2.2.2.2.2.1
theorem dL_law_518 : decode cL_law 518 = .ok (.iaload, 1) := bdL_law_508.2.2.2.2.2.2.2.2.1
theorem dL_law_519 : decode cL_law 519 = .ok (.i2l, 1) := bdL_law_508.2.2.2.2.2.2.2.2.2.1
theorem dL_law_520 : decode cL_law 520 = .ok (.ldc2_w 21, 3) := bdL_law_508.2.2.2.2.2.2.2.2.2.2.1
theorem dL_law_523 : decode cL_law 523 = .ok (.land, 1) := bdL_law_508.2.2.2.2.2.2.2.2.2.2.2
set_option maxRecDepth 20000 in
theorem bdL_law_524 : (decode cL_law 524 = .ok (.lor, 1)) ∧ (decode cL_law 525 = .ok (.invokevirtual 48, 3)) ∧ (decode cL_law 528 = .ok (.aload_n 2, 1)) ∧ (decode cL_law 529 = .ok (.aload_n 0, 1)) ∧ (decode cL_law 530 = .ok (.iload_n 3, 1)) ∧ (decode cL_law 531 = .ok (.iconst 1, 1)) ∧ (decode cL_law 532 = .ok (.iadd, 1)) ∧ (decode cL_law 533 = .ok (.iaload, 1)) ∧ (decode cL_law 534 = .ok (.i2l, 1)) ∧ (decode cL_law 535 = .ok (.bipush 32, 2)) ∧ (decode cL_law 537 = .ok (.lshl, 1)) ∧ (decode cL_law 538 = .ok (.aload_n 0, 1)) := by decide +kernel
theorem dL_law_524 : decode cL_law 524 = .ok (.lor, 1) := bdL_law_524.1
theorem dL_law_525 : decode cL_law 525 = .ok (.invokevirtual 48, 3) := bdL_law_524.2.1
theorem dL_law_528 : decode cL_law 528 = .ok (.aload_n 2, 1) := bdL_law_524.2.2.1
theorem dL_law_529 : decode cL_law 529 = .ok (.aload_n 0, 1) := bdL_law_524.2.2.2.1
theorem dL_law_530 : decode cL_law 530 = .ok (.iload_n 3, 1) := bdL_law_524.2.2.2.2.1
theorem dL_law_531 : decode cL_law 531 = .ok (.iconst 1, 1) := bdL_law_524.2.2.2.2.2.1
theorem dL_law_532 : decode cL_law 532 = .ok (.iadd, 1) := bdL_law_524.2.2.2.2.2.2.1
theorem dL_law_533 : decode cL_law 533 = .ok (.iaload, 1) := bdL_law_524.2.2.2.2.2.2.2.1
theorem dL_law_534 : decode cL_law 534 = .ok (.i2l, 1) := bdL_law_524.2.2.2.2.2.2.2.2.1
theorem dL_law_535 : decode cL_law 535 = .ok (.bipush 32, 2) := bdL_law_524.2.2.2.2.2.2.2.2.2.1
theorem dL_law_537 : decode cL_law 537 = .ok (.lshl, 1) := bdL_law_524.2.2.2.2.2.2.2.2.2.2.1
theorem dL_law_538 : decode cL_law 538 = .ok (.aload_n 0, 1) := bdL_law_524.2.2.2.2.2.2.2.2.2.2.2
set_option maxRecDepth 20000 in
theorem bdL_law_539 : (decode cL_law 539 = .ok (.iload_n 3, 1)) ∧ (decode cL_law 540 = .ok (.iconst 2, 1)) ∧ (decode cL_law 541 = .ok (.iadd, 1)) ∧ (decode cL_law 542 = .ok (.iaload, 1)) ∧ (decode cL_law 543 = .ok (.i2l, 1)) ∧ (decode cL_law 544 = .ok (.ldc2_w 21, 3)) ∧ (decode cL_law 547 = .ok (.land, 1)) ∧ (decode cL_law 548 = .ok (.lor, 1)) ∧ (decode cL_law 549 = .ok (.aload_n 0, 1)) ∧ (decode cL_law 550 = .ok (.iload_n 3, 1)) ∧ (decode cL_law 551 = .ok (.iconst 3, 1)) ∧ (decode cL_law 552 = .ok (.iadd, 1)) := by decide +kernel
theorem dL_law_539 : decode cL_law 539 = .ok (.iload_n 3, 1) := bdL_law_539.1
theorem dL_law_540 : decode cL_law 540 = .ok (.iconst 2, 1) := bdL_law_539.2.1
theorem dL_law_541 : decode cL_law 541 = .ok (.iadd, 1) := bdL_law_539.2.2.1
theorem dL_law_542 : decode cL_law 542 = .ok (.iaload, 1) := bdL_law_539.2.2.2.1
theorem dL_law_543 : decode cL_law 543 = .ok (.i2l, 1) := bdL_law_539.2.2.2.2.1
theorem dL_law_544 : decode cL_law 544 = .ok (.ldc2_w 21, 3) := bdL_law_539.2.2.2.2.2.1
theorem dL_law_547 : decode cL_law 547 = .ok (.land, 1) := bdL_law_539.2.2.2.2.2.2.1
theorem dL_law_548 : decode cL_law 548 = .ok (.lor, 1) := bdL_law_539.2.2.2.2.2.2.2.1
theorem dL_law_549 : decode cL_law 549 = .ok (.aload_n 0, 1) := bdL_law_539.2.2.2.2.2.2.2.2.1
theorem dL_law_550 : decode cL_law 550 = .ok (.iload_n 3, 1) := bdL_law_539.2.2.2.2.2.2.2.2.2.1
theorem dL_law_551 : decode cL_law 551 = .ok (.iconst 3, 1) := bdL_law_539.2.2.2.2.2.2.2.2.2.2.1
theorem dL_law_552 : decode cL_law 552 = .ok (.iadd, 1) := bdL_law_539.2.2.2.2.2.2.2.2.2.2.2
set_option maxRecDepth 20000 in
theorem bdL_law_553 : (decode cL_law 553 = .ok (.iaload, 1)) ∧ (decode cL_law 554 = .ok (.aload_n 0, 1)) ∧ (decode cL_law 555 = .ok (.iload_n 3, 1)) ∧ (decode cL_law 556 = .ok (.iconst 4, 1)) ∧ (decode cL_law 557 = .ok (.iadd, 1)) ∧ (decode cL_law 558 = .ok (.iaload, 1)) ∧ (decode cL_law 559 = .ok (.aload_n 0, 1)) ∧ (decode cL_law 560 = .ok (.iload_n 3, 1)) ∧ (decode cL_law 561 = .ok (.iconst 5, 1)) ∧ (decode cL_law 562 = .ok (.iadd, 1)) ∧ (decode cL_law 563 = .ok (.iaload, 1)) ∧ (decode cL_law 564 = .ok (.i2l, 1)) := by decide +kernel
theorem dL_law_553 : decode cL_law 553 = .ok (.iaload, 1) := bdL_law_553.1
theorem dL_law_554 : decode cL_law 554 = .ok (.aload_n 0, 1) := bdL_law_553.2.1
theorem dL_law_555 : decode cL_law 555 = .ok (.iload_n 3, 1) := bdL_law_553.2.2.1
theorem dL_law_556 : decode cL_law 556 = .ok (.iconst 4, 1) := bdL_law_553.2.2.2.1
theorem dL_law_557 : decode cL_law 557 = .ok (.iadd, 1) := bdL_law_553.2.2.2.2.1
theorem dL_law_558 : decode cL_law 558 = .ok (.iaload, 1) := bdL_law_553.2.2.2.2.2.1
theorem dL_law_559 : decode cL_law 559 = .ok (.aload_n 0, 1) := bdL_law_553.2.2.2.2.2.2.1
theorem dL_law_560 : decode cL_law 560 = .ok (.iload_n 3, 1) := bdL_law_553.2.2.2.2.2.2.2.1
theorem dL_law_561 : decode cL_law 561 = .ok (.iconst 5, 1) := bdL_law_553.2.2.2.2.2.2.2.2.1
theorem dL_law_562 : decode cL_law 562 = .ok (.iadd, 1) := bdL_law_553.2.2.2.2.2.2.2.2.2.1
theorem dL_law_563 : decode cL_law 563 = .ok (.iaload, 1) := bdL_law_553.2.2.2.2.2.2.2.2.2.2.1
theorem dL_law_564 : decode cL_law 564 = .ok (.i2l, 1) := bdL_law_553.2.2.2.2.2.2.2.2.2.2.2
set_option maxRecDepth 20000 in
theorem bdL_law_565 : (decode cL_law 565 = .ok (.bipush 32, 2)) ∧ (decode cL_law 567 = .ok (.lshl, 1)) ∧ (decode cL_law 568 = .ok (.aload_n 0, 1)) ∧ (decode cL_law 569 = .ok (.iload_n 3, 1)) ∧ (decode cL_law 570 = .ok (.bipush 6, 2)) ∧ (decode cL_law 572 = .ok (.iadd, 1)) ∧ (decode cL_law 573 = .ok (.iaload, 1)) ∧ (decode cL_law 574 = .ok (.i2l, 1)) ∧ (decode cL_law 575 = .ok (.ldc2_w 21, 3)) ∧ (decode cL_law 578 = .ok (.land, 1)) ∧ (decode cL_law 579 = .ok (.lor, 1)) ∧ (decode cL_law 580 = .ok (.aload_n 0, 1)) := by decide +kernel
theorem dL_law_565 : decode cL_law 565 = .ok (.bipush 32, 2) := bdL_law_565.1
theorem dL_law_567 : decode cL_law 567 = .ok (.lshl, 1) := bdL_law_565.2.1
theorem dL_law_568 : decode cL_law 568 = .ok (.aload_n 0, 1) := bdL_law_565.2.2.1
theorem dL_law_569 : decode cL_law 569 = .ok (.iload_n 3, 1) := bdL_law_565.2.2.2.1
theorem dL_law_570 : decode cL_law 570 = .ok (.bipush 6, 2) := bdL_law_565.2.2.2.2.1
theorem dL_law_572 : decode cL_law 572 = .ok (.iadd, 1) := bdL_law_565.2.2.2.2.2.1
theorem dL_law_573 : decode cL_law 573 = .ok (.iaload, 1) := bdL_law_565.2.2.2.2.2.2.1
theorem dL_law_574 : decode cL_law 574 = .ok (.i2l, 1) := bdL_law_565.2.2.2.2.2.2.2.1
theorem dL_law_575 : decode cL_law 575 = .ok (.ldc2_w 21, 3) := bdL_law_565.2.2.2.2.2.2.2.2.1
theorem dL_law_578 : decode cL_law 578 = .ok (.land, 1) := bdL_law_565.2.2.2.2.2.2.2.2.2.1
theorem dL_law_579 : decode cL_law 579 = .ok (.lor, 1) := bdL_law_565.2.2.2.2.2.2.2.2.2.2.1
theorem dL_law_580 : decode cL_law 580 = .ok (.aload_n 0, 1) := bdL_law_565.2.2.2.2.2.2.2.2.2.2.2
set_option maxRecDepth 20000 in
theorem bdL_law_581 : (decode cL_law 581 = .ok (.iload_n 3, 1)) ∧ (decode cL_law 582 = .ok (.bipush 7, 2)) ∧ (decode cL_law 584 = .ok (.iadd, 1)) ∧ (decode cL_law 585 = .ok (.iaload, 1)) ∧ (decode cL_law 586 = .ok (.i2l, 1)) ∧ (decode cL_law 587 = .ok (.bipush 32, 2)) ∧ (decode cL_law 589 = .ok (.lshl, 1)) ∧ (decode cL_law 590 = .ok (.aload_n 0, 1)) ∧ (decode cL_law 591 = .ok (.iload_n 3, 1)) ∧ (decode cL_law 592 = .ok (.bipush 8, 2)) ∧ (decode cL_law 594 = .ok (.iadd, 1)) ∧ (decode cL_law 595 = .ok (.iaload, 1)) := by decide +kernel
theorem dL_law_581 : decode cL_law 581 = .ok (.iload_n 3, 1) := bdL_law_581.1
theorem dL_law_582 : decode cL_law 582 = .ok (.bipush 7, 2) := bdL_law_581.2.1
theorem dL_law_584 : decode cL_law 584 = .ok (.iadd, 1) := bdL_law_581.2.2.1
theorem dL_law_585 : decode cL_law 585 = .ok (.iaload, 1) := bdL_law_581.2.2.2.1
theorem dL_law_586 : decode cL_law 586 = .ok (.i2l, 1) := bdL_law_581.2.2.2.2.1
theorem dL_law_587 : decode cL_law 587 = .ok (.bipush 32, 2) := bdL_law_581.2.2.2.2.2.1
theorem dL_law_589 : decode cL_law 589 = .ok (.lshl, 1) := bdL_law_581.2.2.2.2.2.2.1
theorem dL_law_590 : decode cL_law 590 = .ok (.aload_n 0, 1) := bdL_law_581.2.2.2.2.2.2.2.1
theorem dL_law_591 : decode cL_law 591 = .ok (.iload_n 3, 1) := bdL_law_581.2.2.2.2.2.2.2.2.1
theorem dL_law_592 : decode cL_law 592 = .ok (.bipush 8, 2) := bdL_law_581.2.2.2.2.2.2.2.2.2.1
theorem dL_law_594 : decode cL_law 594 = .ok (.iadd, 1) := bdL_law_581.2.2.2.2.2.2.2.2.2.2.1
theorem dL_law_595 : decode cL_law 595 = .ok (.iaload, 1) := bdL_law_581.2.2.2.2.2.2.2.2.2.2.2
set_option maxRecDepth 20000 in
theorem bdL_law_596 : (decode cL_law 596 = .ok (.i2l, 1)) ∧ (decode cL_law 597 = .ok (.ldc2_w 21, 3)) ∧ (decode cL_law 600 = .ok (.land, 1)) ∧ (decode cL_law 601 = .ok (.lor, 1)) ∧ (decode cL_law 602 = .ok (.invokevirtual 52, 3)) ∧ (decode cL_law 605 = .ok (.if_icmp .eq 622, 3)) ∧ (decode cL_law 608 = .ok (.iconst 0, 1)) ∧ (decode cL_law 609 = .ok (.ireturn, 1)) ∧ (decode cL_law 610 = .ok (.aload_n 1, 1)) ∧ (decode cL_law 611 = .ok (.aload_n 0, 1)) ∧ (decode cL_law 612 = .ok (.iload_n 3, 1)) ∧ (decode cL_law 613 = .ok (.iconst 1, 1)) := by decide +kernel
theorem dL_law_596 : decode cL_law 596 = .ok (.i2l, 1) := bdL_law_596.1
theorem dL_law_597 : decode cL_law 597 = .ok (.ldc2_w 21, 3) := bdL_law_596.2.1
theorem dL_law_600 : decode cL_law 600 = .ok (.land, 1) := bdL_law_596.2.2.1
theorem dL_law_601 : decode cL_law 601 = .ok (.lor, 1) := bdL_law_596.2.2.2.1
theorem dL_law_602 : decode cL_law 602 = .ok (.invokevirtual 52, 3) := bdL_law_596.2.2.2.2.1
theorem dL_law_605 : decode cL_law 605 = .ok (.if_icmp .eq 622, 3) := bdL_law_596.2.2.2.2.2.1
theorem dL_law_608 : decode cL_law 608 = .ok (.iconst 0, 1) := bdL_law_596.2.2.2.2.2.2.1
theorem dL_law_609 : decode cL_law 609 = .ok (.ireturn, 1) := bdL_law_596.2.2.2.2.2.2.2.1
theorem dL_law_610 : decode cL_law 610 = .ok (.aload_n 1, 1) := bdL_law_596.2.2.2.2.2.2.2.2.1
theorem dL_law_611 : decode cL_law 611 = .ok (.aload_n 0, 1) := bdL_law_596.2.2.2.2.2.2.2.2.2.1
theorem dL_law_612 : decode cL_law 612 = .ok (.iload_n 3, 1) := bdL_law_596.2.2.2.2.2.2.2.2.2.2.1
theorem dL_law_613 : decode cL_law 613 = .ok (.iconst 1, 1) := bdL_law_596.2.2.2.2.2.2.2.2.2.2.2
set_option maxRecDepth 20000 in
theorem bdL_law_614 : (decode cL_law 614 = .ok (.iadd, 1)) ∧ (decode cL_law 615 = .ok (.iaload, 1)) ∧ (decode cL_law 616 = .ok (.aload_n 0, 1)) ∧ (decode cL_law 617 = .ok (.iload_n 3, 1)) ∧ (decode cL_law 618 = .ok (.iconst 2, 1)) ∧ (decode cL_law 619 = .ok (.iadd, 1)) ∧ (decode cL_law 620 = .ok (.iaload, 1)) ∧ (decode cL_law 621 = .ok (.i2l, 1)) ∧ (decode cL_law 622 = .ok (.bipush 32, 2)) ∧ (decode cL_law 624 = .ok (.lshl, 1)) ∧ (decode cL_law 625 = .ok (.aload_n 0, 1)) ∧ (decode cL_law 626 = .ok (.iload_n 3, 1)) := by decide +kernel
theorem dL_law_614 : decode cL_law 614 = .ok (.iadd, 1) := bdL_law_614.1
theorem dL_law_615 : decode cL_law 615 = .ok (.iaload, 1) := bdL_law_614.2.1
theorem dL_law_616 : decode cL_law 616 = .ok (.aload_n 0, 1) := bdL_law_614.2.2.1
theorem dL_law_617 : decode cL_law 617 = .ok (.iload_n 3, 1) := bdL_law_614.2.2.2.1
theorem dL_law_618 : decode cL_law 618 = .ok (.iconst 2, 1) := bdL_law_614.2.2.2.2.1
theorem dL_law_619 : decode cL_law 619 = .ok (.iadd, 1) := bdL_law_614.2.2.2.2.2.1
theorem dL_law_620 : decode cL_law 620 = .ok (.iaload, 1) := bdL_law_614.2.2.2.2.2.2.1
theorem dL_law_621 : decode cL_law 621 = .ok (.i2l, 1) := bdL_law_614.2.2.2.2.2.2.2.1
theorem dL_law_622 : decode cL_law 622 = .ok (.bipush 32, 2) := bdL_law_614.2.2.2.2.2.2.2.2.1
theorem dL_law_624 : decode cL_law 624 = .ok (.lshl, 1) := bdL_law_614.2.2.2.2.2.2.2.2.2.1
theorem dL_law_625 : decode cL_law 625 = .ok (.aload_n 0, 1) := bdL_law_614.2.2.2.2.2.2.2.2.2.2.1
theorem dL_law_626 : decode cL_law 626 = .ok (.iload_n 3, 1) := bdL_law_614.2.2.2.2.2.2.2.2.2.2.2
set_option maxRecDepth 20000 in
theorem bdL_law_627 : (decode cL_law 627 = .ok (.iconst 3, 1)) ∧ (decode cL_law 628 = .ok (.iadd, 1)) ∧ (decode cL_law 629 = .ok (.iaload, 1)) ∧ (decode cL_law 630 = .ok (.i2l, 1)) ∧ (decode cL_law 631 = .ok (.ldc2_w 21, 3)) ∧ (decode cL_law 634 = .ok (.land, 1)) ∧ (decode cL_law 635 = .ok (.lor, 1)) ∧ (decode cL_law 636 = .ok (.invokevirtual 53, 3)) ∧ (decode cL_law 639 = .ok (.pop, 1)) ∧ (decode cL_law 640 = .ok (.aload_n 2, 1)) ∧ (decode cL_law 641 = .ok (.aload_n 0, 1)) ∧ (decode cL_law 642 = .ok (.iload_n 3, 1)) := by decide +kernel
theorem dL_law_627 : decode cL_law 627 = .ok (.iconst 3, 1) := bdL_law_627.1
theorem dL_law_628 : decode cL_law 628 = .ok (.iadd, 1) := bdL_law_627.2.1
theorem dL_law_629 : decode cL_law 629 = .ok (.iaload, 1) := bdL_law_627.2.2.1
