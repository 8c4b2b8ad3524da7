set_option maxRecDepth 20000 in
theorem ggL_law_X3_inTwice : GoodIn wsL_law wsX3_inTwice := goodIn_r _ [483, 51, 52, 167, 168, 169, 5, 170, 160, 161, 162, 157, 158, 159, 335, 336, 337, 338, 156, 580, 581, 582, 583, 584, 585, 586, 587, 588, 589, 590, 591, 592, 593] (by decide +kernel) (by decide +kernel)
set_option maxRecDepth 20000 in
theorem gL_law_X3_inTwice : GoodIn wsL_law (wsV RL 163 RX3 yX3_inTwice wsX3_inTwice) := goodIn_app (goodIn_of _ (by decide +kernel)) ggL_law_X3_inTwice
set_option maxRecDepth 20000 in
theorem ggL_law_L_inTimed : GoodIn wsL_law wsL_inTimed := goodIn_ca (goodIn_r _ [486, 65, 487, 488, 489, 2, 490, 298, 72, 73, 74, 75, 76, 77, 15, 78, 79, 80, 491, 492, 493, 308, 309, 310, 494, 495, 496, 497, 498, 499, 601, 602, 603, 604, 605, 574, 575, 576, 577, 578, 579] (by decide +kernel) (by decide +kernel)) (goodIn_sub (fun _ h => List.mem_append_left _ (List.mem_append_left _ (List.mem_append_left _ (List.mem_append_right _ h)))) (by decide +kernel))
set_option maxRecDepth 20000 in
theorem gL_law_L_inTimed : GoodIn wsL_law (va_wsS RL 164 yL_inTimed wsL_inTimed) := goodIn_app (goodIn_of _ (by decide +kernel)) ggL_law_L_inTimed
set_option maxRecDepth 20000 in
theorem ggL_law_X3_inTimed : GoodIn wsL_law wsX3_inTimed := goodIn_r _ [503, 56, 53, 54, 167, 168, 169, 5, 170, 160, 161, 162, 157, 158, 159, 335, 336, 337, 338, 156, 580, 581, 582, 583, 584, 585, 586, 587, 588, 589, 590, 591, 592, 593] (by decide +kernel) (by decide +kernel)
set_option maxRecDepth 20000 in
theorem gL_law_X3_inTimed : GoodIn wsL_law (wsV RL 166 RX3 yX3_inTimed wsX3_inTimed) := goodIn_app (goodIn_of _ (by decide +kernel)) ggL_law_X3_inTimed
set_option maxRecDepth 20000 in
theorem ggL_law_L_seen : GoodIn wsL_law wsL_seen := goodIn_ca (goodIn_r _ [506, 65, 507, 508, 509, 2, 510, 20, 108, 511, 512, 72, 73, 74, 75, 76, 77, 15, 78, 79, 80, 513, 514, 515, 22, 516, 40, 574, 575, 576, 577, 578, 579, 594, 595, 596, 597, 598, 599, 600, 601, 602, 603, 604, 605] (by decide +kernel) (by decide +kernel)) (goodIn_sub (fun _ h => List.mem_append_left _ (List.mem_append_left _ (List.mem_append_left _ (List.mem_append_right _ h)))) (by decide +kernel))
set_option maxRecDepth 20000 in
theorem gL_law_L_seen : GoodIn wsL_law (va_wsS RL 167 yL_seen wsL_seen) := goodIn_app (goodIn_of _ (by decide +kernel)) ggL_law_L_seen
set_option maxRecDepth 20000 in
theorem ggL_law_X3_seen : GoodIn wsL_law wsX3_seen := goodIn_r _ [520, 49, 167, 168, 169, 5, 170, 160, 161, 162, 335, 336, 337, 338, 156, 179, 180, 181, 182, 183, 184, 185, 521, 522, 523, 524, 580, 581, 582, 583, 584, 585, 586, 587, 588, 589, 590, 591, 592, 593] (by decide +kernel) (by decide +kernel)
set_option maxRecDepth 20000 in
theorem gL_law_X3_seen : GoodIn wsL_law (wsV RL 169 RX3 yX3_seen wsX3_seen) := goodIn_app (goodIn_of _ (by decide +kernel)) ggL_law_X3_seen
set_option maxRecDepth 20000 in
theorem ggL_law_L_size : GoodIn wsL_law wsL_size := goodIn_ca (goodIn_r _ [527, 65, 528, 529, 530, 2, 531, 532, 533, 323, 324, 325, 326, 76, 77, 16, 72, 73, 74, 75, 15, 78, 79, 80, 534, 535, 536, 537, 538, 539, 540, 541, 542, 543, 601, 602, 603, 604, 605, 574, 575, 576, 577, 578, 579] (by decide +kernel) (by decide +kernel)) (goodIn_sub (fun _ h => List.mem_append_left _ (List.mem_append_left _ (List.mem_append_left _ (List.mem_append_right _ h)))) (by decide +kernel))
set_option maxRecDepth 20000 in
theorem gL_law_L_size : GoodIn wsL_law (va_wsS RL 170 yL_size wsL_size) := goodIn_app (goodIn_of _ (by decide +kernel)) ggL_law_L_size
set_option maxRecDepth 20000 in
theorem ggL_law_X3_size : GoodIn wsL_law wsX3_size := goodIn_r _ [547, 50, 49, 167, 168, 169, 5, 170, 160, 161, 162, 331, 332, 333, 334, 178, 335, 336, 337, 338, 156, 521, 522, 523, 524, 183, 184, 185, 580, 581, 582, 583, 584, 585, 586, 587, 588, 589, 590, 591, 592, 593] (by decide +kernel) (by decide +kernel)
set_option maxRecDepth 20000 in
theorem gL_law_X3_size : GoodIn wsL_law (wsV RL 172 RX3 yX3_size wsX3_size) := goodIn_app (goodIn_of _ (by decide +kernel)) ggL_law_X3_size
set_option maxRecDepth 20000 in
theorem ggL_law_L_same : GoodIn wsL_law wsL_same := goodIn_ca (goodIn_r _ [550, 65, 551, 552, 553, 2, 554, 72, 73, 74, 75, 76, 77, 15, 555, 556, 557, 22, 558, 43, 44, 40, 41, 42, 308, 309, 310, 574, 575, 576, 577, 578, 579, 601, 602, 603, 604, 605] (by decide +kernel) (by decide +kernel)) (goodIn_sub (fun _ h => List.mem_append_left _ (List.mem_append_left _ (List.mem_append_left _ (List.mem_append_right _ h)))) (by decide +kernel))
set_option maxRecDepth 20000 in
theorem gL_law_L_same : GoodIn wsL_law (va_wsS RL 173 yL_same wsL_same) := goodIn_app (goodIn_of _ (by decide +kernel)) ggL_law_L_same
set_option maxRecDepth 20000 in
theorem ggL_law_X3_same : GoodIn wsL_law wsX3_same := goodIn_r _ [562, 167, 168, 169, 5, 170, 160, 161, 162, 335, 336, 337, 338, 156, 347, 348, 349, 350, 51, 52, 49, 50, 53, 54, 56, 580, 581, 582, 583, 584, 585, 586, 587, 588, 589, 590, 591, 592, 593] (by decide +kernel) (by decide +kernel)
set_option maxRecDepth 20000 in
theorem gL_law_X3_same : GoodIn wsL_law (wsV RL 175 RX3 yX3_same wsX3_same) := goodIn_app (goodIn_of _ (by decide +kernel)) ggL_law_X3_same
set_option maxRecDepth 20000 in
theorem ggL_law_L_below : GoodIn wsL_law wsL_below := goodIn_ca (goodIn_r _ [565, 65, 566, 567, 568, 2, 569, 23, 72, 73, 74, 75, 76, 77, 15, 369, 370, 371, 22, 372, 40, 373, 374, 375, 376, 41, 42, 43, 44, 135, 136, 137, 138, 139, 140, 141, 142, 143, 144, 145, 146, 147, 148, 149, 150, 151, 308, 309, 310, 574, 575, 576, 577, 578, 579, 601, 602, 603, 604, 605] (by decide +kernel) (by decide +kernel)) (goodIn_sub (fun _ h => List.mem_append_left _ (List.mem_append_left _ (List.mem_append_left _ (List.mem_append_right _ h)))) (by decide +kernel))
set_option maxRecDepth 20000 in
theorem gL_law_L_below : GoodIn wsL_law (va_wsS RL 176 yL_below wsL_below) := goodIn_app (goodIn_of _ (by decide +kernel)) ggL_law_L_below
set_option maxRecDepth 20000 in
theorem ggL_law_X3_below : GoodIn wsL_law wsX3_below := goodIn_r _ [573, 167, 168, 169, 5, 170, 160, 161, 162, 335, 336, 337, 338, 156, 343, 344, 345, 346, 49, 50, 51, 52, 225, 226, 227, 228, 53, 54, 56, 216, 217, 218, 219, 220, 221, 222, 223, 224, 347, 348, 349, 350, 580, 581, 582, 583, 584, 585, 586, 587, 588, 589, 590, 591, 592, 593] (by decide +kernel) (by decide +kernel)
set_option maxRecDepth 20000 in
theorem gL_law_X3_below : GoodIn wsL_law (wsV RL 178 RX3 yX3_below wsX3_below) := goodIn_app (goodIn_of _ (by decide +kernel)) ggL_law_X3_below
