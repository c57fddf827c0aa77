set_option maxRecDepth 20000 in
theorem ggL_law_X2_init : GoodIn wsL_law wsX2_init := goodIn_r _ [9, 10, 11, 12, 13, 14, 15, 16, 17, 18, 19, 20, 21, 22, 23, 24, 25, 26, 27, 28, 29, 30, 31, 32, 33, 34, 35, 36, 37, 38, 39, 40, 6, 41, 42, 43, 44, 45, 46, 47, 48, 49, 50, 51, 559, 560, 561, 562, 563, 588, 589, 590, 591, 592, 593, 594, 595, 596, 597, 598, 599, 600, 601, 602, 603, 604, 605, 606, 607] (by decide +kernel) (by decide +kernel)
set_option maxRecDepth 20000 in
theorem gL_law_X2_init : GoodIn wsL_law (wsX2_init) := ggL_law_X2_init
set_option maxRecDepth 20000 in
theorem ggL_law_X3_init : GoodIn wsL_law wsX3_init := goodIn_r _ [54, 55, 11, 12, 28, 56, 57, 58, 59, 60, 61, 62, 63, 64, 65, 66, 67, 68, 69, 70, 71, 72, 73, 74, 75, 564, 565, 566, 567, 568, 569, 570, 571, 572, 573, 574, 575, 576, 577, 578, 579, 580, 581, 582, 583, 584, 585, 586, 587] (by decide +kernel) (by decide +kernel)
set_option maxRecDepth 20000 in
theorem gL_law_X3_init : GoodIn wsL_law (wsX3_init) := ggL_law_X3_init
set_option maxRecDepth 20000 in
theorem ggL_law_L_setNeed : GoodIn wsL_law wsL_setNeed := goodIn_ca (goodIn_ca (goodIn_r _ [79, 80, 81, 82, 83, 84, 2, 85, 86, 87, 88, 89, 90, 91, 92, 93, 14, 94, 95, 96, 97, 98, 588, 589, 590, 559, 560, 561, 562, 563] (by decide +kernel) (by decide +kernel)) (goodIn_sub (fun _ h => List.mem_append_left _ (List.mem_append_left _ (List.mem_append_right _ h))) (by decide +kernel))) (goodIn_sub (fun _ h => List.mem_append_left _ (List.mem_append_right _ h)) (by decide +kernel))
set_option maxRecDepth 20000 in
theorem gL_law_L_setNeed : GoodIn wsL_law (va_wsS RL 87 yL_setNeed wsL_setNeed) := goodIn_app (goodIn_of _ (by decide +kernel)) ggL_law_L_setNeed
set_option maxRecDepth 20000 in
theorem ggL_law_X3_setNeed : GoodIn wsL_law wsX3_setNeed := goodIn_r _ [102, 103, 56, 104, 105, 5, 106, 107, 108, 109, 110, 111, 112, 113, 114, 564, 565, 566, 567, 568, 569, 570, 571, 572, 573, 574, 575, 576, 577, 578, 579, 580, 581, 582, 583, 584, 585, 586, 587] (by decide +kernel) (by decide +kernel)
set_option maxRecDepth 20000 in
theorem gL_law_X3_setNeed : GoodIn wsL_law (wsV RL 92 RX3 yX3_setNeed wsX3_setNeed) := goodIn_app (goodIn_of _ (by decide +kernel)) ggL_law_X3_setNeed
set_option maxRecDepth 20000 in
theorem ggL_law_X3_thrown : GoodIn wsL_law wsX3_thrown := goodIn_r _ [118, 114, 564, 565, 566, 567, 568, 569, 570, 571, 572, 573, 574, 575, 576, 577, 578, 579, 580, 581, 582, 583, 584, 585, 586, 587] (by decide +kernel) (by decide +kernel)
set_option maxRecDepth 20000 in
theorem gL_law_X3_thrown : GoodIn wsL_law (wsV RL 93 RX3 yX3_thrown wsX3_thrown) := goodIn_app (goodIn_of _ (by decide +kernel)) ggL_law_X3_thrown
set_option maxRecDepth 20000 in
theorem ggL_law_L_setCrop : GoodIn wsL_law wsL_setCrop := goodIn_ca (goodIn_ca (goodIn_r _ [121, 80, 81, 122, 123, 124, 2, 125, 126, 127, 90, 91, 92, 93, 86, 87, 14, 94, 95, 96, 97, 98, 588, 589, 590, 559, 560, 561, 562, 563] (by decide +kernel) (by decide +kernel)) (goodIn_sub (fun _ h => List.mem_append_left _ (List.mem_append_left _ (List.mem_append_right _ h))) (by decide +kernel))) (goodIn_sub (fun _ h => List.mem_append_left _ (List.mem_append_right _ h)) (by decide +kernel))
set_option maxRecDepth 20000 in
theorem gL_law_L_setCrop : GoodIn wsL_law (va_wsS RL 96 yL_setCrop wsL_setCrop) := goodIn_app (goodIn_of _ (by decide +kernel)) ggL_law_L_setCrop
set_option maxRecDepth 20000 in
theorem ggL_law_X3_setCrop : GoodIn wsL_law wsX3_setCrop := goodIn_r _ [131, 57, 58, 104, 105, 5, 106, 107, 108, 109, 110, 111, 112, 113, 114, 564, 565, 566, 567, 568, 569, 570, 571, 572, 573, 574, 575, 576, 577, 578, 579, 580, 581, 582, 583, 584, 585, 586, 587] (by decide +kernel) (by decide +kernel)
set_option maxRecDepth 20000 in
theorem gL_law_X3_setCrop : GoodIn wsL_law (wsV RL 98 RX3 yX3_setCrop wsX3_setCrop) := goodIn_app (goodIn_of _ (by decide +kernel)) ggL_law_X3_setCrop
set_option maxRecDepth 20000 in
theorem ggL_law_L_add : GoodIn wsL_law wsL_add := goodIn_ca (goodIn_ca (goodIn_r _ [134, 80, 135, 136, 137, 138, 2, 139, 86, 87, 17, 16, 140, 141, 142, 143, 144, 145, 559, 560, 561, 562, 563, 591, 592, 593, 594, 595, 596, 597, 598, 599, 600, 601, 602, 603, 604, 605, 606, 607] (by decide +kernel) (by decide +kernel)) (goodIn_sub (fun _ h => List.mem_append_left _ (List.mem_append_left _ (List.mem_append_right _ h))) (by decide +kernel))) (goodIn_sub (fun _ h => List.mem_append_right _ h) (by decide +kernel))
set_option maxRecDepth 20000 in
theorem gL_law_L_add : GoodIn wsL_law (va_wsS RL 99 yL_add wsL_add) := goodIn_app (goodIn_of _ (by decide +kernel)) ggL_law_L_add
set_option maxRecDepth 20000 in
theorem ggL_law_X3_add : GoodIn wsL_law wsX3_add := goodIn_r _ [149, 150, 59, 107, 108, 5, 109, 110, 111, 112, 113, 114, 151, 152, 153, 154, 68, 69, 70, 71, 72, 564, 565, 566, 567, 568, 569, 570, 571, 572, 573, 574, 575, 576, 577, 578, 579, 580, 581, 582, 583, 584, 585, 586, 587] (by decide +kernel) (by decide +kernel)
set_option maxRecDepth 20000 in
theorem gL_law_X3_add : GoodIn wsL_law (wsV RL 102 RX3 yX3_add wsX3_add) := goodIn_app (goodIn_of _ (by decide +kernel)) ggL_law_X3_add
set_option maxRecDepth 20000 in
theorem ggL_law_X2_farmers : GoodIn wsL_law wsX2_farmers := goodIn_r _ [158, 17, 559, 560, 561, 562, 563] (by decide +kernel) (by decide +kernel)
set_option maxRecDepth 20000 in
theorem gL_law_X2_farmers : GoodIn wsL_law (wsV RL 103 RX2 yX2_farmers wsX2_farmers) := goodIn_app (goodIn_of _ (by decide +kernel)) ggL_law_X2_farmers
set_option maxRecDepth 20000 in
theorem ggL_law_X3_farmers : GoodIn wsL_law wsX3_farmers := goodIn_r _ [162, 150, 163, 164, 165, 5, 166, 114, 564, 565, 566, 567, 568, 569, 570, 571, 572, 573, 574, 575, 576, 577, 578, 579, 580, 581, 582, 583, 584, 585, 586, 587] (by decide +kernel) (by decide +kernel)
set_option maxRecDepth 20000 in
theorem gL_law_X3_farmers : GoodIn wsL_law (wsV RL 106 RX3 yX3_farmers wsX3_farmers) := goodIn_app (goodIn_of _ (by decide +kernel)) ggL_law_X3_farmers
set_option maxRecDepth 20000 in
theorem ggL_law_L_plant : GoodIn wsL_law wsL_plant := goodIn_ca (goodIn_ca (goodIn_ca (goodIn_r _ [169, 80, 81, 135, 170, 171, 172, 2, 173, 19, 174, 175, 176, 177, 178, 179, 180, 181, 86, 87, 17, 16, 90, 91, 92, 93, 14, 94, 95, 96, 97, 98, 182, 183, 184, 23, 185, 47, 141, 142, 143, 144, 145, 186, 187, 188, 21, 189, 29, 559, 560, 561, 562, 563, 591, 592, 593, 594, 595, 596, 597, 598, 599, 600, 601, 602, 603, 604, 605, 606, 607, 588, 589, 590] (by decide +kernel) (by decide +kernel)) (goodIn_sub (fun _ h => List.mem_append_left _ (List.mem_append_left _ (List.mem_append_right _ h))) (by decide +kernel))) (goodIn_sub (fun _ h => List.mem_append_left _ (List.mem_append_right _ h)) (by decide +kernel))) (goodIn_sub (fun _ h => List.mem_append_right _ h) (by decide +kernel))
set_option maxRecDepth 20000 in
theorem gL_law_L_plant : GoodIn wsL_law (va_wsS RL 107 yL_plant wsL_plant) := goodIn_app (goodIn_of _ (by decide +kernel)) ggL_law_L_plant
set_option maxRecDepth 20000 in
theorem ggL_law_X3_plant : GoodIn wsL_law wsX3_plant := goodIn_r _ [193, 194, 68, 63, 62, 69, 195, 196, 197, 5, 198, 150, 107, 108, 109, 104, 105, 106, 110, 111, 112, 113, 114, 199, 200, 201, 202, 56, 564, 565, 566, 567, 568, 569, 570, 571, 572, 573, 574, 575, 576, 577, 578, 579, 580, 581, 582, 583, 584, 585, 586, 587] (by decide +kernel) (by decide +kernel)
set_option maxRecDepth 20000 in
theorem gL_law_X3_plant : GoodIn wsL_law (wsV RL 109 RX3 yX3_plant wsX3_plant) := goodIn_app (goodIn_of _ (by decide +kernel)) ggL_law_X3_plant
set_option maxRecDepth 20000 in
theorem ggL_law_L_cover : GoodIn wsL_law wsL_cover := goodIn_ca (goodIn_ca (goodIn_ca (goodIn_r _ [205, 80, 81, 135, 206, 207, 208, 2, 209, 19, 210, 178, 179, 180, 181, 86, 87, 17, 16, 94, 95, 96, 97, 98, 182, 183, 184, 23, 185, 47, 141, 142, 143, 144, 145, 559, 560, 561, 562, 563, 591, 592, 593, 594, 595, 596, 597, 598, 599, 600, 601, 602, 603, 604, 605, 606, 607] (by decide +kernel) (by decide +kernel)) (goodIn_sub (fun _ h => List.mem_append_left _ (List.mem_append_left _ (List.mem_append_right _ h))) (by decide +kernel))) (goodIn_sub (fun _ h => List.mem_append_left _ (List.mem_append_right _ h)) (by decide +kernel))) (goodIn_sub (fun _ h => List.mem_append_right _ h) (by decide +kernel))
set_option maxRecDepth 20000 in
theorem gL_law_L_cover : GoodIn wsL_law (va_wsS RL 110 yL_cover wsL_cover) := goodIn_app (goodIn_of _ (by decide +kernel)) ggL_law_L_cover
set_option maxRecDepth 20000 in
theorem ggL_law_X3_cover : GoodIn wsL_law wsX3_cover := goodIn_r _ [214, 194, 68, 71, 195, 196, 197, 5, 198, 150, 107, 108, 109, 110, 111, 112, 113, 114, 564, 565, 566, 567, 568, 569, 570, 571, 572, 573, 574, 575, 576, 577, 578, 579, 580, 581, 582, 583, 584, 585, 586, 587] (by decide +kernel) (by decide +kernel)
set_option maxRecDepth 20000 in
theorem gL_law_X3_cover : GoodIn wsL_law (wsV RL 113 RX3 yX3_cover wsX3_cover) := goodIn_app (goodIn_of _ (by decide +kernel)) ggL_law_X3_cover
set_option maxRecDepth 20000 in
theorem ggL_law_L_draw : GoodIn wsL_law wsL_draw := goodIn_ca (goodIn_ca (goodIn_ca (goodIn_r _ [217, 80, 81, 135, 218, 219, 220, 2, 221, 222, 19, 223, 178, 179, 180, 181, 86, 87, 17, 16, 94, 95, 96, 97, 98, 141, 142, 143, 144, 145, 224, 225, 226, 227, 176, 177, 182, 183, 184, 23, 185, 47, 90, 91, 92, 93, 14, 186, 187, 188, 21, 189, 29, 228, 229, 230, 231, 37, 39, 559, 560, 561, 562, 563, 591, 592, 593, 594, 595, 596, 597, 598, 599, 600, 601, 602, 603, 604, 605, 606, 607, 588, 589, 590] (by decide +kernel) (by decide +kernel)) (goodIn_sub (fun _ h => List.mem_append_left _ (List.mem_append_left _ (List.mem_append_right _ h))) (by decide +kernel))) (goodIn_sub (fun _ h => List.mem_append_left _ (List.mem_append_right _ h)) (by decide +kernel))) (goodIn_sub (fun _ h => List.mem_append_right _ h) (by decide +kernel))
set_option maxRecDepth 20000 in
theorem gL_law_L_draw : GoodIn wsL_law (va_wsS RL 114 yL_draw wsL_draw) := goodIn_app (goodIn_of _ (by decide +kernel)) ggL_law_L_draw
set_option maxRecDepth 20000 in
theorem ggL_law_X3_draw : GoodIn wsL_law wsX3_draw := goodIn_r _ [235, 236, 194, 70, 195, 196, 197, 5, 198, 150, 107, 108, 109, 199, 200, 201, 202, 68, 56, 69, 110, 111, 112, 113, 114, 237, 238, 239, 240, 61, 75, 564, 565, 566, 567, 568, 569, 570, 571, 572, 573, 574, 575, 576, 577, 578, 579, 580, 581, 582, 583, 584, 585, 586, 587] (by decide +kernel) (by decide +kernel)
set_option maxRecDepth 20000 in
theorem gL_law_X3_draw : GoodIn wsL_law (wsV RL 116 RX3 yX3_draw wsX3_draw) := goodIn_app (goodIn_of _ (by decide +kernel)) ggL_law_X3_draw
set_option maxRecDepth 20000 in
theorem ggL_law_L_setYield : GoodIn wsL_law wsL_setYield := goodIn_ca (goodIn_ca (goodIn_ca (goodIn_r _ [243, 80, 81, 135, 244, 245, 246, 2, 247, 19, 248, 178, 179, 180, 181, 86, 87, 17, 16, 94, 95, 96, 97, 98, 141, 142, 143, 144, 145, 559, 560, 561, 562, 563, 591, 592, 593, 594, 595, 596, 597, 598, 599, 600, 601, 602, 603, 604, 605, 606, 607] (by decide +kernel) (by decide +kernel)) (goodIn_sub (fun _ h => List.mem_append_left _ (List.mem_append_left _ (List.mem_append_right _ h))) (by decide +kernel))) (goodIn_sub (fun _ h => List.mem_append_left _ (List.mem_append_right _ h)) (by decide +kernel))) (goodIn_sub (fun _ h => List.mem_append_right _ h) (by decide +kernel))
set_option maxRecDepth 20000 in
theorem gL_law_L_setYield : GoodIn wsL_law (va_wsS RL 117 yL_setYield wsL_setYield) := goodIn_app (goodIn_of _ (by decide +kernel)) ggL_law_L_setYield
set_option maxRecDepth 20000 in
theorem ggL_law_X3_setYield : GoodIn wsL_law wsX3_setYield := goodIn_r _ [252, 194, 72, 195, 196, 197, 5, 198, 150, 107, 108, 109, 110, 111, 112, 113, 114, 564, 565, 566, 567, 568, 569, 570, 571, 572, 573, 574, 575, 576, 577, 578, 579, 580, 581, 582, 583, 584, 585, 586, 587] (by decide +kernel) (by decide +kernel)
set_option maxRecDepth 20000 in
theorem gL_law_X3_setYield : GoodIn wsL_law (wsV RL 119 RX3 yX3_setYield wsX3_setYield) := goodIn_app (goodIn_of _ (by decide +kernel)) ggL_law_X3_setYield
set_option maxRecDepth 20000 in
theorem ggL_law_L_next : GoodIn wsL_law wsL_next := goodIn_ca (goodIn_ca (goodIn_r _ [255, 135, 256, 257, 258, 2, 259, 19, 17, 16, 141, 142, 143, 144, 145, 260, 261, 262, 23, 263, 37, 264, 265, 266, 229, 230, 231, 39, 267, 268, 269, 270, 176, 182, 183, 184, 185, 47, 90, 91, 92, 93, 86, 87, 14, 271, 272, 273, 274, 48, 275, 44, 50, 46, 49, 276, 277, 278, 279, 280, 281, 282, 283, 284, 36, 285, 286, 287, 288, 41, 559, 560, 561, 562, 563, 591, 592, 593, 594, 595, 596, 597, 598, 599, 600, 601, 602, 603, 604, 605, 606, 607, 588, 589, 590] (by decide +kernel) (by decide +kernel)) (goodIn_sub (fun _ h => List.mem_append_right _ h) (by decide +kernel))) (goodIn_sub (fun _ h => List.mem_append_left _ (List.mem_append_left _ (List.mem_append_right _ h))) (by decide +kernel))
set_option maxRecDepth 20000 in
theorem gL_law_L_next : GoodIn wsL_law (va_wsS RL 120 yL_next wsL_next) := goodIn_app (goodIn_of _ (by decide +kernel)) ggL_law_L_next
set_option maxRecDepth 20000 in
theorem ggL_law_X3_next : GoodIn wsL_law wsX3_next := goodIn_r _ [292, 194, 150, 61, 293, 294, 68, 110, 111, 112, 5, 113, 114, 237, 238, 239, 240, 75, 295, 296, 297, 298, 69, 58, 63, 72, 62, 71, 57, 299, 300, 301, 302, 60, 303, 304, 305, 306, 74, 564, 565, 566, 567, 568, 569, 570, 571, 572, 573, 574, 575, 576, 577, 578, 579, 580, 581, 582, 583, 584, 585, 586, 587] (by decide +kernel) (by decide +kernel)
set_option maxRecDepth 20000 in
theorem gL_law_X3_next : GoodIn wsL_law (wsV RL 123 RX3 yX3_next wsX3_next) := goodIn_app (goodIn_of _ (by decide +kernel)) ggL_law_X3_next
set_option maxRecDepth 20000 in
theorem ggL_law_L_pledge : GoodIn wsL_law wsL_pledge := goodIn_ca (goodIn_ca (goodIn_ca (goodIn_r _ [309, 80, 81, 135, 310, 311, 312, 2, 313, 314, 175, 126, 178, 179, 180, 181, 86, 87, 17, 16, 94, 95, 96, 97, 98, 315, 316, 317, 23, 318, 44, 45, 141, 142, 143, 144, 145, 90, 91, 92, 93, 14, 319, 320, 321, 322, 323, 265, 38, 277, 278, 279, 280, 37, 281, 282, 283, 284, 36, 285, 286, 287, 288, 41, 591, 592, 593, 594, 595, 596, 597, 598, 599, 600, 601, 602, 603, 604, 605, 606, 607, 588, 589, 590, 559, 560, 561, 562, 563] (by decide +kernel) (by decide +kernel)) (goodIn_sub (fun _ h => List.mem_append_left _ (List.mem_append_left _ (List.mem_append_right _ h))) (by decide +kernel))) (goodIn_sub (fun _ h => List.mem_append_left _ (List.mem_append_right _ h)) (by decide +kernel))) (goodIn_sub (fun _ h => List.mem_append_right _ h) (by decide +kernel))
set_option maxRecDepth 20000 in
theorem gL_law_L_pledge : GoodIn wsL_law (va_wsS RL 124 yL_pledge wsL_pledge) := goodIn_app (goodIn_of _ (by decide +kernel)) ggL_law_L_pledge
set_option maxRecDepth 20000 in
theorem ggL_law_X3_pledge : GoodIn wsL_law wsX3_pledge := goodIn_r _ [327, 328, 63, 64, 57, 62, 329, 294, 65, 195, 196, 197, 5, 198, 150, 107, 108, 109, 110, 111, 112, 113, 114, 299, 300, 301, 302, 61, 60, 303, 304, 305, 306, 74, 564, 565, 566, 567, 568, 569, 570, 571, 572, 573, 574, 575, 576, 577, 578, 579, 580, 581, 582, 583, 584, 585, 586, 587] (by decide +kernel) (by decide +kernel)
set_option maxRecDepth 20000 in
theorem gL_law_X3_pledge : GoodIn wsL_law (wsV RL 126 RX3 yX3_pledge wsX3_pledge) := goodIn_app (goodIn_of _ (by decide +kernel)) ggL_law_X3_pledge
set_option maxRecDepth 20000 in
theorem ggL_law_L_sell : GoodIn wsL_law wsL_sell := goodIn_ca (goodIn_ca (goodIn_ca (goodIn_r _ [332, 80, 81, 135, 333, 334, 335, 2, 336, 314, 174, 175, 126, 178, 179, 180, 181, 86, 87, 17, 16, 94, 95, 96, 97, 98, 141, 142, 143, 144, 145, 90, 91, 92, 93, 14, 337, 338, 339, 23, 340, 341, 342, 283, 343, 38, 281, 282, 284, 44, 45, 344, 316, 317, 318, 277, 278, 279, 280, 37, 36, 285, 286, 287, 288, 41, 345, 346, 347, 348, 266, 229, 230, 231, 39, 591, 592, 593, 594, 595, 596, 597, 598, 599, 600, 601, 602, 603, 604, 605, 606, 607, 588, 589, 590, 559, 560, 561, 562, 563] (by decide +kernel) (by decide +kernel)) (goodIn_sub (fun _ h => List.mem_append_left _ (List.mem_append_left _ (List.mem_append_right _ h))) (by decide +kernel))) (goodIn_sub (fun _ h => List.mem_append_left _ (List.mem_append_right _ h)) (by decide +kernel))) (goodIn_sub (fun _ h => List.mem_append_right _ h) (by decide +kernel))
set_option maxRecDepth 20000 in
theorem gL_law_L_sell : GoodIn wsL_law (va_wsS RL 127 yL_sell wsL_sell) := goodIn_app (goodIn_of _ (by decide +kernel)) ggL_law_L_sell
set_option maxRecDepth 20000 in
theorem ggL_law_X3_sell : GoodIn wsL_law wsX3_sell := goodIn_r _ [352, 328, 63, 57, 62, 64, 65, 195, 196, 197, 5, 198, 150, 107, 108, 109, 110, 111, 112, 113, 114, 299, 300, 301, 302, 61, 60, 303, 304, 305, 306, 74, 237, 238, 239, 240, 75, 564, 565, 566, 567, 568, 569, 570, 571, 572, 573, 574, 575, 576, 577, 578, 579, 580, 581, 582, 583, 584, 585, 586, 587] (by decide +kernel) (by decide +kernel)
set_option maxRecDepth 20000 in
theorem gL_law_X3_sell : GoodIn wsL_law (wsV RL 129 RX3 yX3_sell wsX3_sell) := goodIn_app (goodIn_of _ (by decide +kernel)) ggL_law_X3_sell
set_option maxRecDepth 20000 in
theorem ggL_law_L_repay : GoodIn wsL_law wsL_repay := goodIn_ca (goodIn_ca (goodIn_ca (goodIn_r _ [355, 80, 81, 135, 356, 357, 358, 2, 359, 222, 360, 361, 178, 179, 180, 181, 86, 87, 17, 16, 94, 95, 96, 97, 98, 141, 142, 143, 144, 145, 362, 363, 364, 23, 365, 36, 285, 286, 287, 288, 37, 41, 591, 592, 593, 594, 595, 596, 597, 598, 599, 600, 601, 602, 603, 604, 605, 606, 607, 559, 560, 561, 562, 563] (by decide +kernel) (by decide +kernel)) (goodIn_sub (fun _ h => List.mem_append_left _ (List.mem_append_left _ (List.mem_append_right _ h))) (by decide +kernel))) (goodIn_sub (fun _ h => List.mem_append_left _ (List.mem_append_right _ h)) (by decide +kernel))) (goodIn_sub (fun _ h => List.mem_append_right _ h) (by decide +kernel))
set_option maxRecDepth 20000 in
theorem gL_law_L_repay : GoodIn wsL_law (va_wsS RL 130 yL_repay wsL_repay) := goodIn_app (goodIn_of _ (by decide +kernel)) ggL_law_L_repay
set_option maxRecDepth 20000 in
theorem ggL_law_X3_repay : GoodIn wsL_law wsX3_repay := goodIn_r _ [369, 236, 61, 60, 195, 196, 197, 5, 198, 150, 107, 108, 109, 110, 111, 112, 113, 114, 303, 304, 305, 306, 74, 564, 565, 566, 567, 568, 569, 570, 571, 572, 573, 574, 575, 576, 577, 578, 579, 580, 581, 582, 583, 584, 585, 586, 587] (by decide +kernel) (by decide +kernel)
set_option maxRecDepth 20000 in
theorem gL_law_X3_repay : GoodIn wsL_law (wsV RL 132 RX3 yX3_repay wsX3_repay) := goodIn_app (goodIn_of _ (by decide +kernel)) ggL_law_X3_repay
set_option maxRecDepth 20000 in
theorem ggL_law_L_close : GoodIn wsL_law wsL_close := goodIn_ca (goodIn_r _ [372, 135, 373, 374, 375, 2, 376, 19, 18, 17, 16, 141, 142, 143, 144, 145, 377, 378, 379, 23, 380, 40, 37, 36, 281, 282, 283, 284, 381, 382, 383, 384, 43, 42, 385, 363, 364, 365, 285, 286, 287, 288, 41, 386, 387, 388, 389, 360, 390, 391, 392, 393, 50, 394, 183, 184, 185, 47, 395, 396, 397, 398, 399, 264, 400, 401, 402, 403, 140, 404, 405, 406, 407, 408, 409, 410, 411, 412, 48, 49, 51, 559, 560, 561, 562, 563, 591, 592, 593, 594, 595, 596, 597, 598, 599, 600, 601, 602, 603, 604, 605, 606, 607] (by decide +kernel) (by decide +kernel)) (goodIn_sub (fun _ h => List.mem_append_right _ h) (by decide +kernel))
set_option maxRecDepth 20000 in
theorem gL_law_L_close : GoodIn wsL_law (va_wsS RL 133 yL_close wsL_close) := goodIn_app (goodIn_of _ (by decide +kernel)) ggL_law_L_close
set_option maxRecDepth 20000 in
theorem ggL_law_X3_close : GoodIn wsL_law wsX3_close := goodIn_r _ [416, 194, 417, 150, 73, 68, 72, 66, 61, 110, 111, 112, 5, 113, 114, 418, 419, 420, 421, 67, 60, 303, 304, 305, 306, 74, 422, 423, 424, 425, 426, 427, 428, 429, 59, 151, 152, 153, 154, 69, 70, 71, 564, 565, 566, 567, 568, 569, 570, 571, 572, 573, 574, 575, 576, 577, 578, 579, 580, 581, 582, 583, 584, 585, 586, 587] (by decide +kernel) (by decide +kernel)
set_option maxRecDepth 20000 in
theorem gL_law_X3_close : GoodIn wsL_law (wsV RL 135 RX3 yX3_close wsX3_close) := goodIn_app (goodIn_of _ (by decide +kernel)) ggL_law_X3_close
set_option maxRecDepth 20000 in
theorem ggL_law_X2_season : GoodIn wsL_law wsX2_season := goodIn_r _ [433, 18, 559, 560, 561, 562, 563] (by decide +kernel) (by decide +kernel)
set_option maxRecDepth 20000 in
theorem gL_law_X2_season : GoodIn wsL_law (wsV RL 136 RX2 yX2_season wsX2_season) := goodIn_app (goodIn_of _ (by decide +kernel)) ggL_law_X2_season
set_option maxRecDepth 20000 in
theorem ggL_law_X3_season : GoodIn wsL_law wsX3_season := goodIn_r _ [437, 417, 163, 164, 165, 5, 166, 114, 564, 565, 566, 567, 568, 569, 570, 571, 572, 573, 574, 575, 576, 577, 578, 579, 580, 581, 582, 583, 584, 585, 586, 587] (by decide +kernel) (by decide +kernel)
set_option maxRecDepth 20000 in
theorem gL_law_X3_season : GoodIn wsL_law (wsV RL 139 RX3 yX3_season wsX3_season) := goodIn_app (goodIn_of _ (by decide +kernel)) ggL_law_X3_season
set_option maxRecDepth 20000 in
theorem ggL_law_X2_stage : GoodIn wsL_law wsX2_stage := goodIn_r _ [441, 19, 559, 560, 561, 562, 563] (by decide +kernel) (by decide +kernel)
set_option maxRecDepth 20000 in
theorem gL_law_X2_stage : GoodIn wsL_law (wsV RL 140 RX2 yX2_stage wsX2_stage) := goodIn_app (goodIn_of _ (by decide +kernel)) ggL_law_X2_stage
set_option maxRecDepth 20000 in
theorem ggL_law_X3_stage : GoodIn wsL_law wsX3_stage := goodIn_r _ [445, 194, 163, 164, 165, 5, 166, 114, 564, 565, 566, 567, 568, 569, 570, 571, 572, 573, 574, 575, 576, 577, 578, 579, 580, 581, 582, 583, 584, 585, 586, 587] (by decide +kernel) (by decide +kernel)
set_option maxRecDepth 20000 in
theorem gL_law_X3_stage : GoodIn wsL_law (wsV RL 143 RX3 yX3_stage wsX3_stage) := goodIn_app (goodIn_of _ (by decide +kernel)) ggL_law_X3_stage
set_option maxRecDepth 20000 in
theorem ggL_law_L_limit : GoodIn wsL_law wsL_limit := goodIn_ca (goodIn_r _ [448, 80, 449, 450, 451, 2, 452, 178, 179, 180, 181, 86, 87, 17, 16, 224, 225, 226, 227, 176, 19, 177, 182, 183, 184, 23, 185, 47, 90, 91, 92, 93, 14, 186, 187, 188, 21, 189, 29, 559, 560, 561, 562, 563, 591, 592, 593, 594, 595, 596, 597, 598, 599, 600, 601, 602, 603, 604, 605, 606, 607, 588, 589, 590] (by decide +kernel) (by decide +kernel)) (goodIn_sub (fun _ h => List.mem_append_left _ (List.mem_append_left _ (List.mem_append_right _ h))) (by decide +kernel))
set_option maxRecDepth 20000 in
theorem gL_law_L_limit : GoodIn wsL_law (va_wsS RL 144 yL_limit wsL_limit) := goodIn_app (goodIn_of _ (by decide +kernel)) ggL_law_L_limit
set_option maxRecDepth 20000 in
theorem ggL_law_X3_limit : GoodIn wsL_law wsX3_limit := goodIn_r _ [456, 457, 458, 459, 5, 460, 195, 196, 197, 198, 150, 107, 108, 109, 110, 111, 112, 113, 114, 199, 200, 201, 202, 194, 68, 56, 69, 564, 565, 566, 567, 568, 569, 570, 571, 572, 573, 574, 575, 576, 577, 578, 579, 580, 581, 582, 583, 584, 585, 586, 587] (by decide +kernel) (by decide +kernel)
set_option maxRecDepth 20000 in
theorem gL_law_X3_limit : GoodIn wsL_law (wsV RL 146 RX3 yX3_limit wsX3_limit) := goodIn_app (goodIn_of _ (by decide +kernel)) ggL_law_X3_limit
set_option maxRecDepth 20000 in
theorem ggL_law_L_debt : GoodIn wsL_law wsL_debt := goodIn_ca (goodIn_r _ [463, 80, 464, 465, 466, 2, 467, 360, 178, 179, 180, 181, 86, 87, 17, 16, 591, 592, 593, 594, 595, 596, 597, 598, 599, 600, 601, 602, 603, 604, 605, 606, 607, 559, 560, 561, 562, 563] (by decide +kernel) (by decide +kernel)) (goodIn_sub (fun _ h => List.mem_append_left _ (List.mem_append_left _ (List.mem_append_right _ h))) (by decide +kernel))
set_option maxRecDepth 20000 in
theorem gL_law_L_debt : GoodIn wsL_law (va_wsS RL 147 yL_debt wsL_debt) := goodIn_app (goodIn_of _ (by decide +kernel)) ggL_law_L_debt
set_option maxRecDepth 20000 in
theorem ggL_law_X3_debt : GoodIn wsL_law wsX3_debt := goodIn_r _ [471, 61, 457, 458, 459, 5, 460, 195, 196, 197, 198, 150, 107, 108, 109, 110, 111, 112, 113, 114, 564, 565, 566, 567, 568, 569, 570, 571, 572, 573, 574, 575, 576, 577, 578, 579, 580, 581, 582, 583, 584, 585, 586, 587] (by decide +kernel) (by decide +kernel)
set_option maxRecDepth 20000 in
theorem gL_law_X3_debt : GoodIn wsL_law (wsV RL 149 RX3 yX3_debt wsX3_debt) := goodIn_app (goodIn_of _ (by decide +kernel)) ggL_law_X3_debt
set_option maxRecDepth 20000 in
theorem ggL_law_L_owes : GoodIn wsL_law wsL_owes := goodIn_ca (goodIn_r _ [474, 80, 475, 476, 477, 2, 478, 360, 479, 178, 179, 180, 181, 86, 87, 17, 16, 480, 481, 482, 23, 483, 43, 42, 591, 592, 593, 594, 595, 596, 597, 598, 599, 600, 601, 602, 603, 604, 605, 606, 607, 559, 560, 561, 562, 563] (by decide +kernel) (by decide +kernel)) (goodIn_sub (fun _ h => List.mem_append_left _ (List.mem_append_left _ (List.mem_append_right _ h))) (by decide +kernel))
set_option maxRecDepth 20000 in
theorem gL_law_L_owes : GoodIn wsL_law (va_wsS RL 150 yL_owes wsL_owes) := goodIn_app (goodIn_of _ (by decide +kernel)) ggL_law_L_owes
set_option maxRecDepth 20000 in
theorem ggL_law_X3_owes : GoodIn wsL_law wsX3_owes := goodIn_r _ [487, 61, 65, 66, 67, 457, 458, 459, 5, 460, 195, 196, 197, 198, 150, 107, 108, 109, 110, 111, 112, 113, 114, 564, 565, 566, 567, 568, 569, 570, 571, 572, 573, 574, 575, 576, 577, 578, 579, 580, 581, 582, 583, 584, 585, 586, 587] (by decide +kernel) (by decide +kernel)
set_option maxRecDepth 20000 in
theorem gL_law_X3_owes : GoodIn wsL_law (wsV RL 152 RX3 yX3_owes wsX3_owes) := goodIn_app (goodIn_of _ (by decide +kernel)) ggL_law_X3_owes
set_option maxRecDepth 20000 in
theorem ggL_law_L_instalments : GoodIn wsL_law wsL_instalments := goodIn_ca (goodIn_r _ [490, 80, 491, 492, 493, 2, 494, 495, 178, 179, 180, 181, 86, 87, 17, 16, 591, 592, 593, 594, 595, 596, 597, 598, 599, 600, 601, 602, 603, 604, 605, 606, 607, 559, 560, 561, 562, 563] (by decide +kernel) (by decide +kernel)) (goodIn_sub (fun _ h => List.mem_append_left _ (List.mem_append_left _ (List.mem_append_right _ h))) (by decide +kernel))
set_option maxRecDepth 20000 in
theorem gL_law_L_instalments : GoodIn wsL_law (va_wsS RL 153 yL_instalments wsL_instalments) := goodIn_app (goodIn_of _ (by decide +kernel)) ggL_law_L_instalments
set_option maxRecDepth 20000 in
theorem ggL_law_X3_instalments : GoodIn wsL_law wsX3_instalments := goodIn_r _ [499, 66, 457, 458, 459, 5, 460, 195, 196, 197, 198, 150, 107, 108, 109, 110, 111, 112, 113, 114, 564, 565, 566, 567, 568, 569, 570, 571, 572, 573, 574, 575, 576, 577, 578, 579, 580, 581, 582, 583, 584, 585, 586, 587] (by decide +kernel) (by decide +kernel)
set_option maxRecDepth 20000 in
theorem gL_law_X3_instalments : GoodIn wsL_law (wsV RL 155 RX3 yX3_instalments wsX3_instalments) := goodIn_app (goodIn_of _ (by decide +kernel)) ggL_law_X3_instalments
set_option maxRecDepth 20000 in
theorem ggL_law_L_purse : GoodIn wsL_law wsL_purse := goodIn_ca (goodIn_r _ [502, 80, 503, 504, 505, 2, 506, 361, 178, 179, 180, 181, 86, 87, 17, 16, 591, 592, 593, 594, 595, 596, 597, 598, 599, 600, 601, 602, 603, 604, 605, 606, 607, 559, 560, 561, 562, 563] (by decide +kernel) (by decide +kernel)) (goodIn_sub (fun _ h => List.mem_append_left _ (List.mem_append_left _ (List.mem_append_right _ h))) (by decide +kernel))
set_option maxRecDepth 20000 in
theorem gL_law_L_purse : GoodIn wsL_law (va_wsS RL 156 yL_purse wsL_purse) := goodIn_app (goodIn_of _ (by decide +kernel)) ggL_law_L_purse
set_option maxRecDepth 20000 in
theorem ggL_law_X3_purse : GoodIn wsL_law wsX3_purse := goodIn_r _ [510, 60, 457, 458, 459, 5, 460, 195, 196, 197, 198, 150, 107, 108, 109, 110, 111, 112, 113, 114, 564, 565, 566, 567, 568, 569, 570, 571, 572, 573, 574, 575, 576, 577, 578, 579, 580, 581, 582, 583, 584, 585, 586, 587] (by decide +kernel) (by decide +kernel)
set_option maxRecDepth 20000 in
theorem gL_law_X3_purse : GoodIn wsL_law (wsV RL 158 RX3 yX3_purse wsX3_purse) := goodIn_app (goodIn_of _ (by decide +kernel)) ggL_law_X3_purse
set_option maxRecDepth 20000 in
theorem ggL_law_L_grain : GoodIn wsL_law wsL_grain := goodIn_ca (goodIn_r _ [513, 80, 514, 515, 516, 2, 517, 518, 174, 178, 179, 180, 181, 86, 87, 17, 16, 591, 592, 593, 594, 595, 596, 597, 598, 599, 600, 601, 602, 603, 604, 605, 606, 607, 559, 560, 561, 562, 563] (by decide +kernel) (by decide +kernel)) (goodIn_sub (fun _ h => List.mem_append_left _ (List.mem_append_left _ (List.mem_append_right _ h))) (by decide +kernel))
set_option maxRecDepth 20000 in
theorem gL_law_L_grain : GoodIn wsL_law (va_wsS RL 159 yL_grain wsL_grain) := goodIn_app (goodIn_of _ (by decide +kernel)) ggL_law_L_grain
set_option maxRecDepth 20000 in
theorem ggL_law_X3_grain : GoodIn wsL_law wsX3_grain := goodIn_r _ [522, 64, 63, 457, 458, 459, 5, 460, 195, 196, 197, 198, 150, 107, 108, 109, 110, 111, 112, 113, 114, 564, 565, 566, 567, 568, 569, 570, 571, 572, 573, 574, 575, 576, 577, 578, 579, 580, 581, 582, 583, 584, 585, 586, 587] (by decide +kernel) (by decide +kernel)
set_option maxRecDepth 20000 in
theorem gL_law_X3_grain : GoodIn wsL_law (wsV RL 162 RX3 yX3_grain wsX3_grain) := goodIn_app (goodIn_of _ (by decide +kernel)) ggL_law_X3_grain
set_option maxRecDepth 20000 in
theorem ggL_law_L_called : GoodIn wsL_law wsL_called := goodIn_ca (goodIn_r _ [525, 80, 526, 527, 528, 2, 529, 530, 178, 179, 180, 181, 86, 87, 17, 16, 591, 592, 593, 594, 595, 596, 597, 598, 599, 600, 601, 602, 603, 604, 605, 606, 607, 559, 560, 561, 562, 563] (by decide +kernel) (by decide +kernel)) (goodIn_sub (fun _ h => List.mem_append_left _ (List.mem_append_left _ (List.mem_append_right _ h))) (by decide +kernel))
set_option maxRecDepth 20000 in
theorem gL_law_L_called : GoodIn wsL_law (va_wsS RL 163 yL_called wsL_called) := goodIn_app (goodIn_of _ (by decide +kernel)) ggL_law_L_called
set_option maxRecDepth 20000 in
theorem ggL_law_X3_called : GoodIn wsL_law wsX3_called := goodIn_r _ [534, 73, 457, 458, 459, 5, 460, 195, 196, 197, 198, 150, 107, 108, 109, 110, 111, 112, 113, 114, 564, 565, 566, 567, 568, 569, 570, 571, 572, 573, 574, 575, 576, 577, 578, 579, 580, 581, 582, 583, 584, 585, 586, 587] (by decide +kernel) (by decide +kernel)
set_option maxRecDepth 20000 in
theorem gL_law_X3_called : GoodIn wsL_law (wsV RL 165 RX3 yX3_called wsX3_called) := goodIn_app (goodIn_of _ (by decide +kernel)) ggL_law_X3_called
set_option maxRecDepth 20000 in
theorem ggL_law_L_repaid : GoodIn wsL_law wsL_repaid := goodIn_ca (goodIn_ca (goodIn_r _ [537, 80, 81, 538, 539, 540, 2, 541, 542, 178, 179, 180, 181, 86, 87, 17, 16, 94, 95, 96, 97, 98, 591, 592, 593, 594, 595, 596, 597, 598, 599, 600, 601, 602, 603, 604, 605, 606, 607, 559, 560, 561, 562, 563] (by decide +kernel) (by decide +kernel)) (goodIn_sub (fun _ h => List.mem_append_left _ (List.mem_append_left _ (List.mem_append_right _ h))) (by decide +kernel))) (goodIn_sub (fun _ h => List.mem_append_left _ (List.mem_append_right _ h)) (by decide +kernel))
set_option maxRecDepth 20000 in
theorem gL_law_L_repaid : GoodIn wsL_law (va_wsS RL 166 yL_repaid wsL_repaid) := goodIn_app (goodIn_of _ (by decide +kernel)) ggL_law_L_repaid
set_option maxRecDepth 20000 in
theorem ggL_law_X3_repaid : GoodIn wsL_law wsX3_repaid := goodIn_r _ [546, 74, 195, 196, 197, 5, 198, 150, 107, 108, 109, 110, 111, 112, 113, 114, 564, 565, 566, 567, 568, 569, 570, 571, 572, 573, 574, 575, 576, 577, 578, 579, 580, 581, 582, 583, 584, 585, 586, 587] (by decide +kernel) (by decide +kernel)
set_option maxRecDepth 20000 in
theorem gL_law_X3_repaid : GoodIn wsL_law (wsV RL 168 RX3 yX3_repaid wsX3_repaid) := goodIn_app (goodIn_of _ (by decide +kernel)) ggL_law_X3_repaid
set_option maxRecDepth 20000 in
theorem ggL_law_L_charged : GoodIn wsL_law wsL_charged := goodIn_ca (goodIn_r _ [549, 80, 550, 551, 552, 2, 553, 554, 178, 179, 180, 181, 86, 87, 17, 16, 591, 592, 593, 594, 595, 596, 597, 598, 599, 600, 601, 602, 603, 604, 605, 606, 607, 559, 560, 561, 562, 563] (by decide +kernel) (by decide +kernel)) (goodIn_sub (fun _ h => List.mem_append_left _ (List.mem_append_left _ (List.mem_append_right _ h))) (by decide +kernel))
set_option maxRecDepth 20000 in
theorem gL_law_L_charged : GoodIn wsL_law (va_wsS RL 169 yL_charged wsL_charged) := goodIn_app (goodIn_of _ (by decide +kernel)) ggL_law_L_charged
set_option maxRecDepth 20000 in
theorem ggL_law_X3_charged : GoodIn wsL_law wsX3_charged := goodIn_r _ [558, 75, 457, 458, 459, 5, 460, 195, 196, 197, 198, 150, 107, 108, 109, 110, 111, 112, 113, 114, 564, 565, 566, 567, 568, 569, 570, 571, 572, 573, 574, 575, 576, 577, 578, 579, 580, 581, 582, 583, 584, 585, 586, 587] (by decide +kernel) (by decide +kernel)
set_option maxRecDepth 20000 in
theorem gL_law_X3_charged : GoodIn wsL_law (wsV RL 171 RX3 yX3_charged wsX3_charged) := goodIn_app (goodIn_of _ (by decide +kernel)) ggL_law_X3_charged
