set_option maxRecDepth 20000 in
theorem ggL_law_X3_count : GoodIn wsL_law wsX3_count := goodIn_r _ [254, 156, 163, 164, 165, 5, 166, 167, 168, 169, 170, 160, 161, 162, 171, 172, 173, 174, 175, 176, 177, 178, 179, 180, 181, 182, 49, 183, 184, 185, 190, 191, 192, 193, 194, 195, 196, 197, 50, 51, 52, 53, 54, 56, 198, 199, 200, 201, 57, 58, 59, 202, 203, 204, 205, 206, 207, 208, 209, 210, 211, 212, 213, 214, 215, 216, 217, 218, 219, 220, 221, 222, 223, 224, 225, 226, 227, 228, 580, 581, 582, 583, 584, 585, 586, 587, 588, 589, 590, 591, 592, 593] (by decide +kernel) (by decide +kernel)
set_option maxRecDepth 20000 in
theorem gL_law_X3_count : GoodIn wsL_law (wsV RL 113 RX3 yX3_count wsX3_count) := goodIn_app (goodIn_of _ (by decide +kernel)) ggL_law_X3_count
set_option maxRecDepth 20000 in
theorem ggL_law_L_flag : GoodIn wsL_law wsL_flag := goodIn_ca (goodIn_ca (goodIn_ca (goodIn_r _ [257, 65, 66, 67, 258, 259, 260, 2, 261, 72, 73, 74, 75, 76, 77, 15, 78, 79, 80, 81, 82, 83, 84, 85, 86, 87, 88, 89, 20, 90, 91, 92, 93, 94, 95, 96, 97, 98, 19, 99, 36, 35, 100, 101, 102, 103, 25, 16, 14, 21, 22, 37, 38, 39, 12, 13, 6, 40, 41, 29, 42, 43, 44, 104, 105, 106, 107, 108, 109, 110, 111, 112, 113, 114, 115, 116, 117, 32, 33, 30, 118, 119, 120, 121, 122, 123, 124, 125, 31, 34, 126, 127, 128, 129, 130, 131, 132, 133, 134, 135, 136, 137, 138, 139, 140, 141, 142, 143, 144, 145, 146, 147, 148, 149, 150, 151, 574, 575, 576, 577, 578, 579, 594, 595, 596, 597, 598, 599, 600, 601, 602, 603, 604, 605] (by decide +kernel) (by decide +kernel)) (goodIn_sub (fun _ h => List.mem_append_left _ (List.mem_append_left _ (List.mem_append_left _ (List.mem_append_right _ h)))) (by decide +kernel))) (goodIn_sub (fun _ h => List.mem_append_left _ (List.mem_append_left _ (List.mem_append_right _ h))) (by decide +kernel))) (goodIn_sub (fun _ h => List.mem_append_left _ (List.mem_append_right _ h)) (by decide +kernel))
set_option maxRecDepth 20000 in
theorem gL_law_L_flag : GoodIn wsL_law (va_wsS RL 114 yL_flag wsL_flag) := goodIn_app (goodIn_of _ (by decide +kernel)) ggL_law_L_flag
set_option maxRecDepth 20000 in
theorem ggL_law_X3_flag : GoodIn wsL_law wsX3_flag := goodIn_r _ [265, 156, 160, 161, 5, 162, 163, 164, 165, 166, 167, 168, 169, 170, 171, 172, 173, 174, 175, 176, 177, 178, 179, 180, 181, 182, 49, 183, 184, 185, 186, 187, 188, 189, 190, 191, 192, 193, 194, 195, 196, 197, 50, 51, 52, 53, 54, 56, 198, 199, 200, 201, 57, 58, 59, 202, 203, 204, 205, 206, 207, 208, 209, 210, 211, 212, 213, 214, 215, 216, 217, 218, 219, 220, 221, 222, 223, 224, 225, 226, 227, 228, 580, 581, 582, 583, 584, 585, 586, 587, 588, 589, 590, 591, 592, 593] (by decide +kernel) (by decide +kernel)
set_option maxRecDepth 20000 in
theorem gL_law_X3_flag : GoodIn wsL_law (wsV RL 116 RX3 yX3_flag wsX3_flag) := goodIn_app (goodIn_of _ (by decide +kernel)) ggL_law_X3_flag
set_option maxRecDepth 20000 in
theorem ggL_law_L_clear : GoodIn wsL_law wsL_clear := goodIn_ca (goodIn_ca (goodIn_r _ [268, 65, 67, 269, 270, 271, 2, 272, 72, 73, 74, 75, 76, 77, 15, 78, 79, 80, 100, 101, 102, 103, 94, 95, 25, 16, 14, 21, 22, 37, 38, 39, 12, 13, 6, 40, 41, 29, 42, 43, 44, 104, 105, 106, 107, 20, 108, 109, 110, 111, 112, 113, 114, 115, 116, 19, 117, 32, 33, 30, 118, 119, 120, 121, 131, 132, 133, 134, 135, 136, 137, 138, 139, 140, 141, 142, 143, 144, 145, 146, 147, 148, 149, 150, 151, 574, 575, 576, 577, 578, 579, 601, 602, 603, 604, 605, 594, 595, 596, 597, 598, 599, 600] (by decide +kernel) (by decide +kernel)) (goodIn_sub (fun _ h => List.mem_append_left _ (List.mem_append_left _ (List.mem_append_left _ (List.mem_append_right _ h)))) (by decide +kernel))) (goodIn_sub (fun _ h => List.mem_append_left _ (List.mem_append_right _ h)) (by decide +kernel))
set_option maxRecDepth 20000 in
theorem gL_law_L_clear : GoodIn wsL_law (va_wsS RL 117 yL_clear wsL_clear) := goodIn_app (goodIn_of _ (by decide +kernel)) ggL_law_L_clear
set_option maxRecDepth 20000 in
theorem ggL_law_X3_clear : GoodIn wsL_law wsX3_clear := goodIn_r _ [276, 156, 167, 168, 169, 5, 170, 160, 161, 162, 171, 172, 173, 174, 175, 176, 177, 178, 179, 180, 181, 182, 49, 183, 184, 185, 190, 191, 192, 193, 194, 195, 196, 197, 50, 51, 52, 53, 54, 56, 198, 199, 200, 201, 57, 58, 59, 202, 203, 204, 205, 206, 207, 212, 213, 214, 215, 216, 217, 218, 219, 220, 221, 222, 223, 224, 225, 226, 227, 228, 580, 581, 582, 583, 584, 585, 586, 587, 588, 589, 590, 591, 592, 593] (by decide +kernel) (by decide +kernel)
set_option maxRecDepth 20000 in
theorem gL_law_X3_clear : GoodIn wsL_law (wsV RL 120 RX3 yX3_clear wsX3_clear) := goodIn_app (goodIn_of _ (by decide +kernel)) ggL_law_X3_clear
set_option maxRecDepth 20000 in
theorem ggL_law_L_twice : GoodIn wsL_law wsL_twice := goodIn_ca (goodIn_ca (goodIn_r _ [279, 65, 67, 280, 281, 282, 2, 283, 284, 285, 72, 73, 74, 75, 76, 77, 15, 78, 79, 80, 100, 101, 102, 103, 94, 95, 25, 16, 14, 21, 22, 37, 38, 39, 12, 13, 6, 40, 41, 29, 42, 43, 44, 131, 132, 133, 134, 135, 136, 137, 138, 139, 140, 141, 142, 143, 144, 145, 146, 147, 148, 149, 150, 151, 601, 602, 603, 604, 605, 574, 575, 576, 577, 578, 579] (by decide +kernel) (by decide +kernel)) (goodIn_sub (fun _ h => List.mem_append_left _ (List.mem_append_left _ (List.mem_append_left _ (List.mem_append_right _ h)))) (by decide +kernel))) (goodIn_sub (fun _ h => List.mem_append_left _ (List.mem_append_right _ h)) (by decide +kernel))
set_option maxRecDepth 20000 in
theorem gL_law_L_twice : GoodIn wsL_law (va_wsS RL 121 yL_twice wsL_twice) := goodIn_app (goodIn_of _ (by decide +kernel)) ggL_law_L_twice
set_option maxRecDepth 20000 in
theorem ggL_law_X3_twice : GoodIn wsL_law wsX3_twice := goodIn_r _ [289, 156, 51, 52, 167, 168, 169, 5, 170, 160, 161, 162, 157, 158, 159, 174, 175, 176, 177, 178, 179, 180, 181, 182, 49, 183, 184, 185, 190, 191, 192, 193, 194, 195, 196, 197, 50, 53, 54, 56, 212, 213, 214, 215, 216, 217, 218, 219, 220, 221, 222, 223, 224, 225, 226, 227, 228, 580, 581, 582, 583, 584, 585, 586, 587, 588, 589, 590, 591, 592, 593] (by decide +kernel) (by decide +kernel)
set_option maxRecDepth 20000 in
theorem gL_law_X3_twice : GoodIn wsL_law (wsV RL 124 RX3 yX3_twice wsX3_twice) := goodIn_app (goodIn_of _ (by decide +kernel)) ggL_law_X3_twice
set_option maxRecDepth 20000 in
theorem ggL_law_L_timed : GoodIn wsL_law wsL_timed := goodIn_ca (goodIn_ca (goodIn_ca (goodIn_r _ [292, 65, 293, 67, 294, 295, 296, 2, 297, 298, 72, 73, 74, 75, 76, 77, 15, 78, 79, 80, 299, 300, 301, 302, 303, 304, 100, 101, 102, 103, 94, 95, 25, 16, 14, 21, 22, 37, 38, 39, 12, 13, 6, 40, 41, 29, 42, 43, 44, 305, 306, 307, 308, 309, 310, 131, 132, 133, 134, 135, 136, 137, 138, 139, 140, 141, 142, 143, 144, 145, 146, 147, 148, 149, 150, 151, 601, 602, 603, 604, 605, 574, 575, 576, 577, 578, 579] (by decide +kernel) (by decide +kernel)) (goodIn_sub (fun _ h => List.mem_append_left _ (List.mem_append_left _ (List.mem_append_left _ (List.mem_append_right _ h)))) (by decide +kernel))) (goodIn_sub (fun _ h => List.mem_append_right _ h) (by decide +kernel))) (goodIn_sub (fun _ h => List.mem_append_left _ (List.mem_append_right _ h)) (by decide +kernel))
set_option maxRecDepth 20000 in
theorem gL_law_L_timed : GoodIn wsL_law (va_wsS RL 125 yL_timed wsL_timed) := goodIn_app (goodIn_of _ (by decide +kernel)) ggL_law_L_timed
set_option maxRecDepth 20000 in
theorem ggL_law_X3_timed : GoodIn wsL_law wsX3_timed := goodIn_r _ [314, 315, 156, 53, 54, 56, 167, 168, 169, 5, 170, 160, 161, 162, 157, 158, 159, 174, 175, 176, 177, 178, 179, 180, 181, 182, 49, 183, 184, 185, 190, 191, 192, 193, 194, 195, 196, 197, 50, 51, 52, 212, 213, 214, 215, 216, 217, 218, 219, 220, 221, 222, 223, 224, 225, 226, 227, 228, 580, 581, 582, 583, 584, 585, 586, 587, 588, 589, 590, 591, 592, 593] (by decide +kernel) (by decide +kernel)
set_option maxRecDepth 20000 in
theorem gL_law_X3_timed : GoodIn wsL_law (wsV RL 127 RX3 yX3_timed wsX3_timed) := goodIn_app (goodIn_of _ (by decide +kernel)) ggL_law_X3_timed
set_option maxRecDepth 20000 in
theorem ggL_law_L_join : GoodIn wsL_law wsL_join := goodIn_ca (goodIn_r _ [318, 65, 319, 320, 321, 2, 322, 72, 73, 74, 75, 76, 77, 15, 323, 324, 325, 326, 16, 135, 136, 137, 22, 138, 139, 140, 141, 142, 41, 40, 143, 144, 145, 146, 147, 43, 44, 148, 149, 150, 151, 42, 308, 309, 310, 574, 575, 576, 577, 578, 579, 601, 602, 603, 604, 605] (by decide +kernel) (by decide +kernel)) (goodIn_sub (fun _ h => List.mem_append_left _ (List.mem_append_left _ (List.mem_append_left _ (List.mem_append_right _ h)))) (by decide +kernel))
set_option maxRecDepth 20000 in
theorem gL_law_L_join : GoodIn wsL_law (va_wsS RL 128 yL_join wsL_join) := goodIn_app (goodIn_of _ (by decide +kernel)) ggL_law_L_join
set_option maxRecDepth 20000 in
theorem ggL_law_X3_join : GoodIn wsL_law wsX3_join := goodIn_r _ [330, 167, 168, 169, 5, 170, 160, 161, 162, 331, 332, 333, 334, 178, 335, 336, 337, 338, 156, 339, 340, 341, 342, 343, 344, 345, 346, 49, 50, 51, 52, 225, 226, 227, 228, 53, 54, 56, 216, 217, 218, 219, 220, 221, 222, 223, 224, 347, 348, 349, 350, 580, 581, 582, 583, 584, 585, 586, 587, 588, 589, 590, 591, 592, 593] (by decide +kernel) (by decide +kernel)
set_option maxRecDepth 20000 in
theorem gL_law_X3_join : GoodIn wsL_law (wsV RL 130 RX3 yX3_join wsX3_join) := goodIn_app (goodIn_of _ (by decide +kernel)) ggL_law_X3_join
set_option maxRecDepth 20000 in
theorem ggL_law_L_merge : GoodIn wsL_law wsL_merge := goodIn_ca (goodIn_r _ [353, 65, 354, 355, 356, 2, 357, 72, 73, 74, 75, 76, 77, 15, 135, 136, 137, 22, 138, 139, 140, 141, 142, 41, 40, 143, 144, 145, 146, 147, 43, 44, 148, 149, 150, 151, 42, 308, 309, 310, 574, 575, 576, 577, 578, 579, 601, 602, 603, 604, 605] (by decide +kernel) (by decide +kernel)) (goodIn_sub (fun _ h => List.mem_append_left _ (List.mem_append_left _ (List.mem_append_left _ (List.mem_append_right _ h)))) (by decide +kernel))
set_option maxRecDepth 20000 in
theorem gL_law_L_merge : GoodIn wsL_law (va_wsS RL 131 yL_merge wsL_merge) := goodIn_app (goodIn_of _ (by decide +kernel)) ggL_law_L_merge
set_option maxRecDepth 20000 in
theorem ggL_law_X3_merge : GoodIn wsL_law wsX3_merge := goodIn_r _ [361, 167, 168, 169, 5, 170, 160, 161, 162, 335, 336, 337, 338, 156, 339, 340, 341, 342, 343, 344, 345, 346, 49, 50, 51, 52, 225, 226, 227, 228, 53, 54, 56, 216, 217, 218, 219, 220, 221, 222, 223, 224, 347, 348, 349, 350, 580, 581, 582, 583, 584, 585, 586, 587, 588, 589, 590, 591, 592, 593] (by decide +kernel) (by decide +kernel)
set_option maxRecDepth 20000 in
theorem gL_law_X3_merge : GoodIn wsL_law (wsV RL 133 RX3 yX3_merge wsX3_merge) := goodIn_app (goodIn_of _ (by decide +kernel)) ggL_law_X3_merge
set_option maxRecDepth 20000 in
theorem ggL_law_L_group : GoodIn wsL_law wsL_group := goodIn_ca (goodIn_ca (goodIn_r _ [364, 65, 67, 365, 366, 367, 2, 368, 25, 323, 324, 325, 326, 76, 77, 16, 100, 101, 102, 103, 94, 95, 14, 21, 22, 37, 38, 39, 12, 13, 6, 40, 41, 29, 42, 43, 44, 369, 370, 371, 372, 373, 374, 375, 376, 135, 136, 137, 138, 139, 140, 141, 142, 143, 144, 145, 146, 147, 148, 149, 150, 151, 574, 575, 576, 577, 578, 579, 601, 602, 603, 604, 605] (by decide +kernel) (by decide +kernel)) (goodIn_sub (fun _ h => List.mem_append_left _ (List.mem_append_left _ (List.mem_append_left _ (List.mem_append_right _ h)))) (by decide +kernel))) (goodIn_sub (fun _ h => List.mem_append_left _ (List.mem_append_right _ h)) (by decide +kernel))
set_option maxRecDepth 20000 in
theorem gL_law_L_group : GoodIn wsL_law (va_wsS RL 134 yL_group wsL_group) := goodIn_app (goodIn_of _ (by decide +kernel)) ggL_law_L_group
set_option maxRecDepth 20000 in
theorem ggL_law_X3_group : GoodIn wsL_law wsX3_group := goodIn_r _ [380, 178, 156, 331, 332, 333, 5, 334, 160, 161, 162, 190, 191, 192, 193, 194, 195, 196, 197, 49, 50, 51, 52, 53, 54, 56, 216, 217, 218, 219, 220, 221, 222, 223, 224, 225, 226, 227, 228, 580, 581, 582, 583, 584, 585, 586, 587, 588, 589, 590, 591, 592, 593] (by decide +kernel) (by decide +kernel)
set_option maxRecDepth 20000 in
theorem gL_law_X3_group : GoodIn wsL_law (wsV RL 136 RX3 yX3_group wsX3_group) := goodIn_app (goodIn_of _ (by decide +kernel)) ggL_law_X3_group
set_option maxRecDepth 20000 in
theorem ggL_law_L_whole : GoodIn wsL_law wsL_whole := goodIn_ca (goodIn_ca (goodIn_r _ [383, 65, 67, 384, 385, 386, 2, 387, 25, 72, 73, 74, 75, 76, 77, 15, 100, 101, 102, 103, 94, 95, 16, 14, 21, 22, 37, 38, 39, 12, 13, 6, 40, 41, 29, 42, 43, 44, 369, 370, 371, 372, 373, 374, 375, 376, 574, 575, 576, 577, 578, 579, 601, 602, 603, 604, 605] (by decide +kernel) (by decide +kernel)) (goodIn_sub (fun _ h => List.mem_append_left _ (List.mem_append_left _ (List.mem_append_left _ (List.mem_append_right _ h)))) (by decide +kernel))) (goodIn_sub (fun _ h => List.mem_append_left _ (List.mem_append_right _ h)) (by decide +kernel))
set_option maxRecDepth 20000 in
theorem gL_law_L_whole : GoodIn wsL_law (va_wsS RL 137 yL_whole wsL_whole) := goodIn_app (goodIn_of _ (by decide +kernel)) ggL_law_L_whole
set_option maxRecDepth 20000 in
theorem ggL_law_X3_whole : GoodIn wsL_law wsX3_whole := goodIn_r _ [391, 178, 156, 167, 168, 169, 5, 170, 160, 161, 162, 343, 344, 345, 346, 49, 50, 51, 52, 225, 226, 227, 228, 53, 54, 56, 580, 581, 582, 583, 584, 585, 586, 587, 588, 589, 590, 591, 592, 593] (by decide +kernel) (by decide +kernel)
set_option maxRecDepth 20000 in
theorem gL_law_X3_whole : GoodIn wsL_law (wsV RL 140 RX3 yX3_whole wsX3_whole) := goodIn_app (goodIn_of _ (by decide +kernel)) ggL_law_X3_whole
set_option maxRecDepth 20000 in
theorem ggL_law_X2_deltas : GoodIn wsL_law wsX2_deltas := goodIn_r _ [395, 25, 574, 575, 576, 577, 578, 579] (by decide +kernel) (by decide +kernel)
set_option maxRecDepth 20000 in
theorem gL_law_X2_deltas : GoodIn wsL_law (wsV RL 141 RX2 yX2_deltas wsX2_deltas) := goodIn_app (goodIn_of _ (by decide +kernel)) ggL_law_X2_deltas
set_option maxRecDepth 20000 in
theorem ggL_law_X3_deltas : GoodIn wsL_law wsX3_deltas := goodIn_r _ [399, 156, 178, 580, 581, 582, 583, 584, 585, 586, 587, 588, 589, 590, 591, 592, 593] (by decide +kernel) (by decide +kernel)
set_option maxRecDepth 20000 in
theorem gL_law_X3_deltas : GoodIn wsL_law (wsV RL 144 RX3 yX3_deltas wsX3_deltas) := goodIn_app (goodIn_of _ (by decide +kernel)) ggL_law_X3_deltas
set_option maxRecDepth 20000 in
theorem ggL_law_L_has : GoodIn wsL_law wsL_has := goodIn_ca (goodIn_r _ [402, 65, 403, 404, 405, 2, 406, 20, 108, 72, 73, 74, 75, 76, 77, 15, 78, 79, 80, 110, 111, 112, 22, 113, 41, 114, 115, 116, 19, 117, 32, 33, 30, 574, 575, 576, 577, 578, 579, 594, 595, 596, 597, 598, 599, 600, 601, 602, 603, 604, 605] (by decide +kernel) (by decide +kernel)) (goodIn_sub (fun _ h => List.mem_append_left _ (List.mem_append_left _ (List.mem_append_left _ (List.mem_append_right _ h)))) (by decide +kernel))
set_option maxRecDepth 20000 in
theorem gL_law_L_has : GoodIn wsL_law (va_wsS RL 145 yL_has wsL_has) := goodIn_app (goodIn_of _ (by decide +kernel)) ggL_law_L_has
set_option maxRecDepth 20000 in
theorem ggL_law_X3_has : GoodIn wsL_law wsX3_has := goodIn_r _ [410, 50, 57, 58, 167, 168, 169, 5, 170, 160, 161, 162, 171, 172, 173, 157, 158, 159, 335, 336, 337, 338, 156, 202, 203, 204, 183, 184, 185, 580, 581, 582, 583, 584, 585, 586, 587, 588, 589, 590, 591, 592, 593] (by decide +kernel) (by decide +kernel)
set_option maxRecDepth 20000 in
theorem gL_law_X3_has : GoodIn wsL_law (wsV RL 148 RX3 yX3_has wsX3_has) := goodIn_app (goodIn_of _ (by decide +kernel)) ggL_law_X3_has
set_option maxRecDepth 20000 in
theorem ggL_law_L_values : GoodIn wsL_law wsL_values := goodIn_ca (goodIn_r _ [413, 65, 414, 415, 416, 2, 417, 72, 73, 74, 75, 76, 77, 15, 78, 79, 80, 418, 419, 420, 421, 20, 108, 109, 110, 111, 112, 22, 113, 41, 114, 115, 116, 19, 117, 32, 33, 30, 422, 423, 424, 425, 24, 574, 575, 576, 577, 578, 579, 594, 595, 596, 597, 598, 599, 600, 601, 602, 603, 604, 605] (by decide +kernel) (by decide +kernel)) (goodIn_sub (fun _ h => List.mem_append_left _ (List.mem_append_left _ (List.mem_append_left _ (List.mem_append_right _ h)))) (by decide +kernel))
set_option maxRecDepth 20000 in
theorem gL_law_L_values : GoodIn wsL_law (va_wsS RL 149 yL_values wsL_values) := goodIn_app (goodIn_of _ (by decide +kernel)) ggL_law_L_values
set_option maxRecDepth 20000 in
theorem ggL_law_X3_values : GoodIn wsL_law wsX3_values := goodIn_r _ [429, 430, 167, 168, 169, 5, 170, 160, 161, 162, 171, 172, 173, 335, 336, 337, 338, 156, 431, 432, 433, 434, 50, 57, 59, 202, 203, 204, 183, 184, 185, 435, 436, 437, 438, 60, 580, 581, 582, 583, 584, 585, 586, 587, 588, 589, 590, 591, 592, 593] (by decide +kernel) (by decide +kernel)
set_option maxRecDepth 20000 in
theorem gL_law_X3_values : GoodIn wsL_law (wsV RL 151 RX3 yX3_values wsX3_values) := goodIn_app (goodIn_of _ (by decide +kernel)) ggL_law_X3_values
set_option maxRecDepth 20000 in
theorem ggL_law_L_value : GoodIn wsL_law wsL_value := goodIn_ca (goodIn_r _ [441, 65, 442, 443, 444, 2, 445, 24, 72, 73, 74, 75, 76, 77, 15, 78, 79, 80, 418, 419, 420, 421, 20, 108, 109, 110, 111, 112, 22, 113, 41, 114, 115, 116, 19, 117, 32, 33, 30, 422, 423, 424, 425, 574, 575, 576, 577, 578, 579, 594, 595, 596, 597, 598, 599, 600, 601, 602, 603, 604, 605] (by decide +kernel) (by decide +kernel)) (goodIn_sub (fun _ h => List.mem_append_left _ (List.mem_append_left _ (List.mem_append_left _ (List.mem_append_right _ h)))) (by decide +kernel))
set_option maxRecDepth 20000 in
theorem gL_law_L_value : GoodIn wsL_law (va_wsS RL 152 yL_value wsL_value) := goodIn_app (goodIn_of _ (by decide +kernel)) ggL_law_L_value
set_option maxRecDepth 20000 in
theorem ggL_law_X3_value : GoodIn wsL_law wsX3_value := goodIn_r _ [449, 430, 60, 167, 168, 169, 5, 170, 160, 161, 162, 171, 172, 173, 335, 336, 337, 338, 156, 431, 432, 433, 434, 50, 57, 59, 202, 203, 204, 183, 184, 185, 435, 436, 437, 438, 580, 581, 582, 583, 584, 585, 586, 587, 588, 589, 590, 591, 592, 593] (by decide +kernel) (by decide +kernel)
set_option maxRecDepth 20000 in
theorem gL_law_X3_value : GoodIn wsL_law (wsV RL 154 RX3 yX3_value wsX3_value) := goodIn_app (goodIn_of _ (by decide +kernel)) ggL_law_X3_value
set_option maxRecDepth 20000 in
theorem ggL_law_L_sum : GoodIn wsL_law wsL_sum := goodIn_ca (goodIn_r _ [452, 65, 453, 454, 455, 2, 456, 20, 108, 109, 72, 73, 74, 75, 76, 77, 15, 78, 79, 80, 110, 111, 112, 22, 113, 41, 114, 115, 116, 19, 117, 32, 33, 30, 574, 575, 576, 577, 578, 579, 594, 595, 596, 597, 598, 599, 600, 601, 602, 603, 604, 605] (by decide +kernel) (by decide +kernel)) (goodIn_sub (fun _ h => List.mem_append_left _ (List.mem_append_left _ (List.mem_append_left _ (List.mem_append_right _ h)))) (by decide +kernel))
set_option maxRecDepth 20000 in
theorem gL_law_L_sum : GoodIn wsL_law (va_wsS RL 155 yL_sum wsL_sum) := goodIn_app (goodIn_of _ (by decide +kernel)) ggL_law_L_sum
set_option maxRecDepth 20000 in
theorem ggL_law_X3_sum : GoodIn wsL_law wsX3_sum := goodIn_r _ [460, 50, 57, 59, 167, 168, 169, 5, 170, 160, 161, 162, 171, 172, 173, 335, 336, 337, 338, 156, 202, 203, 204, 183, 184, 185, 580, 581, 582, 583, 584, 585, 586, 587, 588, 589, 590, 591, 592, 593] (by decide +kernel) (by decide +kernel)
set_option maxRecDepth 20000 in
theorem gL_law_X3_sum : GoodIn wsL_law (wsV RL 157 RX3 yX3_sum wsX3_sum) := goodIn_app (goodIn_of _ (by decide +kernel)) ggL_law_X3_sum
set_option maxRecDepth 20000 in
theorem ggL_law_L_keys : GoodIn wsL_law wsL_keys := goodIn_ca (goodIn_r _ [463, 65, 464, 465, 466, 2, 467, 20, 108, 468, 72, 73, 74, 75, 76, 77, 15, 110, 111, 112, 22, 113, 41, 574, 575, 576, 577, 578, 579, 594, 595, 596, 597, 598, 599, 600, 601, 602, 603, 604, 605] (by decide +kernel) (by decide +kernel)) (goodIn_sub (fun _ h => List.mem_append_left _ (List.mem_append_left _ (List.mem_append_left _ (List.mem_append_right _ h)))) (by decide +kernel))
set_option maxRecDepth 20000 in
theorem gL_law_L_keys : GoodIn wsL_law (va_wsS RL 158 yL_keys wsL_keys) := goodIn_app (goodIn_of _ (by decide +kernel)) ggL_law_L_keys
set_option maxRecDepth 20000 in
theorem ggL_law_X3_keys : GoodIn wsL_law wsX3_keys := goodIn_r _ [472, 50, 57, 167, 168, 169, 5, 170, 160, 161, 162, 335, 336, 337, 338, 156, 183, 184, 185, 202, 203, 204, 580, 581, 582, 583, 584, 585, 586, 587, 588, 589, 590, 591, 592, 593] (by decide +kernel) (by decide +kernel)
set_option maxRecDepth 20000 in
theorem gL_law_X3_keys : GoodIn wsL_law (wsV RL 160 RX3 yX3_keys wsX3_keys) := goodIn_app (goodIn_of _ (by decide +kernel)) ggL_law_X3_keys
set_option maxRecDepth 20000 in
theorem ggL_law_L_inTwice : GoodIn wsL_law wsL_inTwice := goodIn_ca (goodIn_r _ [475, 65, 476, 477, 478, 2, 479, 284, 285, 72, 73, 74, 75, 76, 77, 15, 78, 79, 80, 601, 602, 603, 604, 605, 574, 575, 576, 577, 578, 579] (by decide +kernel) (by decide +kernel)) (goodIn_sub (fun _ h => List.mem_append_left _ (List.mem_append_left _ (List.mem_append_left _ (List.mem_append_right _ h)))) (by decide +kernel))
set_option maxRecDepth 20000 in
theorem gL_law_L_inTwice : GoodIn wsL_law (va_wsS RL 161 yL_inTwice wsL_inTwice) := goodIn_app (goodIn_of _ (by decide +kernel)) ggL_law_L_inTwice
