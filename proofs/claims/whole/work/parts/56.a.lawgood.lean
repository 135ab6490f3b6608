set_option maxRecDepth 20000 in
theorem ggL_law_X2_init : GoodIn wsL_law wsX2_init := goodIn_r _ [9, 10, 11, 12, 13, 14, 15, 16, 17, 18, 19, 20, 21, 22, 23, 24, 25, 26, 27, 573, 574, 575, 576, 577, 578, 579, 580, 581, 582, 583, 584] (by decide +kernel) (by decide +kernel)
set_option maxRecDepth 20000 in
theorem gL_law_X2_init : GoodIn wsL_law (wsX2_init) := ggL_law_X2_init
set_option maxRecDepth 20000 in
theorem ggL_law_X3_init : GoodIn wsL_law wsX3_init := goodIn_r _ [30, 31, 11, 12, 18, 32, 33, 34, 35, 36, 37, 38, 39, 40, 41, 42, 43, 44, 45, 585, 586, 587, 588, 589, 590, 591, 592, 593, 594, 595, 596, 597, 598, 599, 600, 601, 602, 603, 604, 605, 606] (by decide +kernel) (by decide +kernel)
set_option maxRecDepth 20000 in
theorem gL_law_X3_init : GoodIn wsL_law (wsX3_init) := ggL_law_X3_init
set_option maxRecDepth 20000 in
theorem ggL_law_L_make : GoodIn wsL_law wsL_make := goodIn_ca (goodIn_ca (goodIn_r _ [49, 50, 51, 52, 53, 54, 2, 55, 56, 57, 58, 59, 20, 14, 13, 60, 61, 62, 63, 64, 65, 66, 67, 68, 11, 12, 69, 70, 71, 72, 73, 74, 75, 573, 574, 575, 576, 577, 578, 579, 580, 581, 582, 583, 584, 607, 608, 609, 610, 611, 612, 613] (by decide +kernel) (by decide +kernel)) (goodIn_sub (fun _ h => List.mem_append_left _ (List.mem_append_left _ (List.mem_append_right _ h))) (by decide +kernel))) (goodIn_sub (fun _ h => List.mem_append_left _ (List.mem_append_right _ h)) (by decide +kernel))
set_option maxRecDepth 20000 in
theorem gL_law_L_make : GoodIn wsL_law (va_wsS RL 82 yL_make wsL_make) := goodIn_app (goodIn_of _ (by decide +kernel)) ggL_law_L_make
set_option maxRecDepth 20000 in
theorem ggL_law_X3_make : GoodIn wsL_law wsX3_make := goodIn_r _ [79, 80, 32, 33, 34, 36, 37, 81, 82, 5, 83, 84, 85, 86, 87, 88, 585, 586, 587, 588, 589, 590, 591, 592, 593, 594, 595, 596, 597, 598, 599, 600, 601, 602, 603, 604, 605, 606] (by decide +kernel) (by decide +kernel)
set_option maxRecDepth 20000 in
theorem gL_law_X3_make : GoodIn wsL_law (wsV RL 87 RX3 yX3_make wsX3_make) := goodIn_app (goodIn_of _ (by decide +kernel)) ggL_law_X3_make
set_option maxRecDepth 20000 in
theorem ggL_law_X3_thrown : GoodIn wsL_law wsX3_thrown := goodIn_r _ [92, 88, 585, 586, 587, 588, 589, 590, 591, 592, 593, 594, 595, 596, 597, 598, 599, 600, 601, 602, 603, 604, 605, 606] (by decide +kernel) (by decide +kernel)
set_option maxRecDepth 20000 in
theorem gL_law_X3_thrown : GoodIn wsL_law (wsV RL 88 RX3 yX3_thrown wsX3_thrown) := goodIn_app (goodIn_of _ (by decide +kernel)) ggL_law_X3_thrown
set_option maxRecDepth 20000 in
theorem ggL_law_L_hang : GoodIn wsL_law wsL_hang := goodIn_ca (goodIn_ca (goodIn_ca (goodIn_r _ [95, 96, 50, 51, 97, 98, 99, 2, 100, 101, 102, 56, 57, 58, 59, 103, 104, 105, 106, 107, 108, 109, 14, 62, 63, 64, 110, 111, 112, 113, 16, 114, 115, 116, 117, 118, 119, 120, 121, 122, 123, 124, 125, 126, 61, 127, 72, 73, 74, 128, 129, 130, 131, 132, 133, 134, 607, 608, 609, 610, 611, 612, 613, 614, 615, 616, 617, 618, 619, 620, 573, 574, 575, 576, 577, 578, 579, 580, 581, 582, 583, 584] (by decide +kernel) (by decide +kernel)) (goodIn_sub (fun _ h => List.mem_append_right _ h) (by decide +kernel))) (goodIn_sub (fun _ h => List.mem_append_left _ (List.mem_append_left _ (List.mem_append_right _ h))) (by decide +kernel))) (goodIn_sub (fun _ h => List.mem_append_left _ (List.mem_append_right _ h)) (by decide +kernel))
set_option maxRecDepth 20000 in
theorem gL_law_L_hang : GoodIn wsL_law (va_wsS RL 92 yL_hang wsL_hang) := goodIn_app (goodIn_of _ (by decide +kernel)) ggL_law_L_hang
set_option maxRecDepth 20000 in
theorem ggL_law_X3_hang : GoodIn wsL_law wsX3_hang := goodIn_r _ [138, 37, 41, 40, 38, 139, 140, 141, 5, 142, 80, 81, 82, 83, 143, 144, 145, 146, 147, 148, 149, 150, 151, 152, 153, 154, 155, 32, 33, 34, 156, 157, 158, 159, 84, 85, 86, 87, 88, 585, 586, 587, 588, 589, 590, 591, 592, 593, 594, 595, 596, 597, 598, 599, 600, 601, 602, 603, 604, 605, 606] (by decide +kernel) (by decide +kernel)
set_option maxRecDepth 20000 in
theorem gL_law_X3_hang : GoodIn wsL_law (wsV RL 94 RX3 yX3_hang wsX3_hang) := goodIn_app (goodIn_of _ (by decide +kernel)) ggL_law_X3_hang
set_option maxRecDepth 20000 in
theorem ggL_law_L_takeDown : GoodIn wsL_law wsL_takeDown := goodIn_ca (goodIn_ca (goodIn_r _ [162, 96, 51, 163, 164, 165, 2, 166, 58, 59, 103, 167, 106, 107, 108, 109, 101, 102, 14, 62, 63, 64, 168, 169, 170, 117, 171, 119, 133, 134, 172, 173, 174, 61, 175, 69, 607, 608, 609, 610, 611, 612, 613, 614, 615, 616, 617, 618, 619, 620, 573, 574, 575, 576, 577, 578, 579, 580, 581, 582, 583, 584] (by decide +kernel) (by decide +kernel)) (goodIn_sub (fun _ h => List.mem_append_left _ (List.mem_append_right _ h)) (by decide +kernel))) (goodIn_sub (fun _ h => List.mem_append_right _ h) (by decide +kernel))
set_option maxRecDepth 20000 in
theorem gL_law_L_takeDown : GoodIn wsL_law (va_wsS RL 95 yL_takeDown wsL_takeDown) := goodIn_app (goodIn_of _ (by decide +kernel)) ggL_law_L_takeDown
set_option maxRecDepth 20000 in
theorem ggL_law_X3_takeDown : GoodIn wsL_law wsX3_takeDown := goodIn_r _ [179, 37, 139, 140, 141, 5, 142, 80, 81, 82, 83, 84, 85, 86, 87, 88, 180, 181, 182, 183, 35, 585, 586, 587, 588, 589, 590, 591, 592, 593, 594, 595, 596, 597, 598, 599, 600, 601, 602, 603, 604, 605, 606] (by decide +kernel) (by decide +kernel)
set_option maxRecDepth 20000 in
theorem gL_law_X3_takeDown : GoodIn wsL_law (wsV RL 98 RX3 yX3_takeDown wsX3_takeDown) := goodIn_app (goodIn_of _ (by decide +kernel)) ggL_law_X3_takeDown
set_option maxRecDepth 20000 in
theorem ggL_law_L_light : GoodIn wsL_law wsL_light := goodIn_ca (goodIn_ca (goodIn_r _ [186, 96, 51, 187, 188, 189, 2, 190, 58, 59, 191, 192, 106, 107, 108, 109, 101, 102, 14, 62, 63, 64, 193, 194, 195, 61, 196, 70, 197, 198, 71, 199, 200, 201, 202, 203, 204, 205, 206, 207, 25, 208, 209, 210, 211, 212, 607, 608, 609, 610, 611, 612, 613, 573, 574, 575, 576, 577, 578, 579, 580, 581, 582, 583, 584, 614, 615, 616, 617, 618, 619, 620] (by decide +kernel) (by decide +kernel)) (goodIn_sub (fun _ h => List.mem_append_left _ (List.mem_append_right _ h)) (by decide +kernel))) (goodIn_sub (fun _ h => List.mem_append_right _ h) (by decide +kernel))
set_option maxRecDepth 20000 in
theorem gL_law_L_light : GoodIn wsL_law (va_wsS RL 99 yL_light wsL_light) := goodIn_app (goodIn_of _ (by decide +kernel)) ggL_law_L_light
set_option maxRecDepth 20000 in
theorem ggL_law_X3_light : GoodIn wsL_law wsX3_light := goodIn_r _ [216, 35, 80, 36, 139, 140, 141, 5, 142, 81, 82, 83, 217, 218, 219, 220, 37, 41, 221, 222, 223, 224, 34, 225, 226, 227, 228, 229, 230, 231, 232, 233, 42, 38, 84, 85, 86, 87, 88, 585, 586, 587, 588, 589, 590, 591, 592, 593, 594, 595, 596, 597, 598, 599, 600, 601, 602, 603, 604, 605, 606] (by decide +kernel) (by decide +kernel)
set_option maxRecDepth 20000 in
theorem gL_law_X3_light : GoodIn wsL_law (wsV RL 101 RX3 yX3_light wsX3_light) := goodIn_app (goodIn_of _ (by decide +kernel)) ggL_law_X3_light
set_option maxRecDepth 20000 in
theorem ggL_law_L_putOut : GoodIn wsL_law wsL_putOut := goodIn_ca (goodIn_ca (goodIn_r _ [236, 96, 51, 237, 238, 239, 2, 240, 58, 59, 191, 192, 106, 107, 108, 109, 101, 102, 14, 62, 63, 64, 172, 173, 174, 61, 175, 69, 607, 608, 609, 610, 611, 612, 613, 573, 574, 575, 576, 577, 578, 579, 580, 581, 582, 583, 584] (by decide +kernel) (by decide +kernel)) (goodIn_sub (fun _ h => List.mem_append_left _ (List.mem_append_right _ h)) (by decide +kernel))) (goodIn_sub (fun _ h => List.mem_append_right _ h) (by decide +kernel))
set_option maxRecDepth 20000 in
theorem gL_law_L_putOut : GoodIn wsL_law (va_wsS RL 102 yL_putOut wsL_putOut) := goodIn_app (goodIn_of _ (by decide +kernel)) ggL_law_L_putOut
set_option maxRecDepth 20000 in
theorem ggL_law_X3_putOut : GoodIn wsL_law wsX3_putOut := goodIn_r _ [244, 35, 36, 139, 140, 141, 5, 142, 80, 81, 82, 83, 84, 85, 86, 87, 88, 585, 586, 587, 588, 589, 590, 591, 592, 593, 594, 595, 596, 597, 598, 599, 600, 601, 602, 603, 604, 605, 606] (by decide +kernel) (by decide +kernel)
set_option maxRecDepth 20000 in
theorem gL_law_X3_putOut : GoodIn wsL_law (wsV RL 104 RX3 yX3_putOut wsX3_putOut) := goodIn_app (goodIn_of _ (by decide +kernel)) ggL_law_X3_putOut
set_option maxRecDepth 20000 in
theorem ggL_law_L_build : GoodIn wsL_law wsL_build := goodIn_ca (goodIn_ca (goodIn_r _ [247, 50, 51, 248, 249, 250, 2, 251, 56, 57, 58, 59, 21, 16, 15, 252, 117, 62, 63, 64, 253, 254, 255, 256, 11, 12, 257, 119, 258, 259, 260, 261, 262, 263, 573, 574, 575, 576, 577, 578, 579, 580, 581, 582, 583, 584, 614, 615, 616, 617, 618, 619, 620] (by decide +kernel) (by decide +kernel)) (goodIn_sub (fun _ h => List.mem_append_left _ (List.mem_append_left _ (List.mem_append_right _ h))) (by decide +kernel))) (goodIn_sub (fun _ h => List.mem_append_left _ (List.mem_append_right _ h)) (by decide +kernel))
set_option maxRecDepth 20000 in
theorem gL_law_L_build : GoodIn wsL_law (va_wsS RL 105 yL_build wsL_build) := goodIn_app (goodIn_of _ (by decide +kernel)) ggL_law_L_build
set_option maxRecDepth 20000 in
theorem ggL_law_X3_build : GoodIn wsL_law wsX3_build := goodIn_r _ [267, 147, 39, 40, 81, 82, 5, 83, 84, 85, 86, 87, 88, 585, 586, 587, 588, 589, 590, 591, 592, 593, 594, 595, 596, 597, 598, 599, 600, 601, 602, 603, 604, 605, 606] (by decide +kernel) (by decide +kernel)
set_option maxRecDepth 20000 in
theorem gL_law_X3_build : GoodIn wsL_law (wsV RL 108 RX3 yX3_build wsX3_build) := goodIn_app (goodIn_of _ (by decide +kernel)) ggL_law_X3_build
set_option maxRecDepth 20000 in
theorem ggL_law_L_launch : GoodIn wsL_law wsL_launch := goodIn_ca (goodIn_ca (goodIn_r _ [270, 96, 51, 271, 272, 273, 2, 274, 58, 59, 104, 22, 17, 275, 276, 110, 111, 112, 113, 101, 102, 16, 62, 63, 64, 277, 278, 279, 280, 24, 281, 282, 283, 117, 284, 259, 285, 286, 287, 288, 614, 615, 616, 617, 618, 619, 620, 573, 574, 575, 576, 577, 578, 579, 580, 581, 582, 583, 584] (by decide +kernel) (by decide +kernel)) (goodIn_sub (fun _ h => List.mem_append_left _ (List.mem_append_right _ h)) (by decide +kernel))) (goodIn_sub (fun _ h => List.mem_append_right _ h) (by decide +kernel))
set_option maxRecDepth 20000 in
theorem gL_law_L_launch : GoodIn wsL_law (va_wsS RL 109 yL_launch wsL_launch) := goodIn_app (goodIn_of _ (by decide +kernel)) ggL_law_L_launch
set_option maxRecDepth 20000 in
theorem ggL_law_X3_launch : GoodIn wsL_law wsX3_launch := goodIn_r _ [292, 41, 42, 44, 43, 293, 143, 144, 145, 5, 146, 147, 81, 82, 83, 294, 295, 296, 297, 84, 85, 86, 87, 88, 298, 299, 300, 301, 585, 586, 587, 588, 589, 590, 591, 592, 593, 594, 595, 596, 597, 598, 599, 600, 601, 602, 603, 604, 605, 606] (by decide +kernel) (by decide +kernel)
set_option maxRecDepth 20000 in
theorem gL_law_X3_launch : GoodIn wsL_law (wsV RL 111 RX3 yX3_launch wsX3_launch) := goodIn_app (goodIn_of _ (by decide +kernel)) ggL_law_X3_launch
set_option maxRecDepth 20000 in
theorem ggL_law_L_setRules : GoodIn wsL_law wsL_setRules := goodIn_ca (goodIn_r _ [304, 50, 305, 306, 307, 2, 308, 56, 57, 24, 25, 62, 63, 64, 573, 574, 575, 576, 577, 578, 579, 580, 581, 582, 583, 584] (by decide +kernel) (by decide +kernel)) (goodIn_sub (fun _ h => List.mem_append_left _ (List.mem_append_left _ (List.mem_append_right _ h))) (by decide +kernel))
set_option maxRecDepth 20000 in
theorem gL_law_L_setRules : GoodIn wsL_law (va_wsS RL 112 yL_setRules wsL_setRules) := goodIn_app (goodIn_of _ (by decide +kernel)) ggL_law_L_setRules
set_option maxRecDepth 20000 in
theorem ggL_law_X3_setRules : GoodIn wsL_law wsX3_setRules := goodIn_r _ [312, 44, 225, 81, 82, 5, 83, 84, 85, 86, 87, 88, 585, 586, 587, 588, 589, 590, 591, 592, 593, 594, 595, 596, 597, 598, 599, 600, 601, 602, 603, 604, 605, 606] (by decide +kernel) (by decide +kernel)
set_option maxRecDepth 20000 in
theorem gL_law_X3_setRules : GoodIn wsL_law (wsV RL 114 RX3 yX3_setRules wsX3_setRules) := goodIn_app (goodIn_of _ (by decide +kernel)) ggL_law_X3_setRules
set_option maxRecDepth 20000 in
theorem ggL_law_L_setGust : GoodIn wsL_law wsL_setGust := goodIn_ca (goodIn_r _ [315, 50, 316, 317, 318, 2, 319, 56, 57, 19, 62, 63, 64, 573, 574, 575, 576, 577, 578, 579, 580, 581, 582, 583, 584] (by decide +kernel) (by decide +kernel)) (goodIn_sub (fun _ h => List.mem_append_left _ (List.mem_append_left _ (List.mem_append_right _ h))) (by decide +kernel))
set_option maxRecDepth 20000 in
theorem gL_law_L_setGust : GoodIn wsL_law (va_wsS RL 115 yL_setGust wsL_setGust) := goodIn_app (goodIn_of _ (by decide +kernel)) ggL_law_L_setGust
set_option maxRecDepth 20000 in
theorem ggL_law_X3_setGust : GoodIn wsL_law wsX3_setGust := goodIn_r _ [323, 45, 81, 82, 5, 83, 84, 85, 86, 87, 88, 585, 586, 587, 588, 589, 590, 591, 592, 593, 594, 595, 596, 597, 598, 599, 600, 601, 602, 603, 604, 605, 606] (by decide +kernel) (by decide +kernel)
set_option maxRecDepth 20000 in
theorem gL_law_X3_setGust : GoodIn wsL_law (wsV RL 117 RX3 yX3_setGust wsX3_setGust) := goodIn_app (goodIn_of _ (by decide +kernel)) ggL_law_X3_setGust
set_option maxRecDepth 20000 in
theorem ggL_law_L_pass : GoodIn wsL_law wsL_pass := goodIn_ca (goodIn_r _ [326, 50, 327, 328, 329, 2, 330, 56, 57, 62, 63, 64, 331, 332, 333, 334, 14, 191, 335, 336, 337, 338, 23, 339, 340, 341, 342, 17, 104, 24, 343, 344, 345, 117, 346, 259, 262, 347, 348, 349, 350, 351, 352, 353, 354, 282, 283, 284, 355, 356, 357, 358, 275, 359, 360, 361, 362, 119, 363, 173, 174, 61, 175, 69, 364, 365, 366, 367, 19, 26, 368, 369, 370, 371, 73, 72, 172, 372, 373, 374, 375, 376, 377, 378, 379, 75, 380, 381, 382, 383, 27, 199, 200, 201, 202, 203, 204, 205, 206, 207, 25, 208, 209, 210, 211, 212, 194, 195, 196, 70, 197, 198, 71, 573, 574, 575, 576, 577, 578, 579, 580, 581, 582, 583, 584, 607, 608, 609, 610, 611, 612, 613, 614, 615, 616, 617, 618, 619, 620] (by decide +kernel) (by decide +kernel)) (goodIn_sub (fun _ h => List.mem_append_left _ (List.mem_append_left _ (List.mem_append_right _ h))) (by decide +kernel))
set_option maxRecDepth 20000 in
theorem gL_law_L_pass : GoodIn wsL_law (va_wsS RL 118 yL_pass wsL_pass) := goodIn_app (goodIn_of _ (by decide +kernel)) ggL_law_L_pass
set_option maxRecDepth 20000 in
theorem ggL_law_X3_pass : GoodIn wsL_law wsX3_pass := goodIn_r _ [387, 388, 81, 82, 5, 83, 84, 85, 86, 87, 88, 389, 390, 391, 392, 80, 35, 393, 394, 395, 396, 293, 43, 41, 42, 39, 44, 147, 37, 180, 181, 182, 183, 397, 398, 399, 400, 45, 33, 32, 401, 36, 402, 221, 222, 223, 224, 34, 225, 226, 227, 228, 229, 230, 231, 232, 233, 38, 585, 586, 587, 588, 589, 590, 591, 592, 593, 594, 595, 596, 597, 598, 599, 600, 601, 602, 603, 604, 605, 606] (by decide +kernel) (by decide +kernel)
set_option maxRecDepth 20000 in
theorem gL_law_X3_pass : GoodIn wsL_law (wsV RL 120 RX3 yX3_pass wsX3_pass) := goodIn_app (goodIn_of _ (by decide +kernel)) ggL_law_X3_pass
set_option maxRecDepth 20000 in
theorem ggL_law_X2_time : GoodIn wsL_law wsX2_time := goodIn_r _ [406, 23, 573, 574, 575, 576, 577, 578, 579, 580, 581, 582, 583, 584] (by decide +kernel) (by decide +kernel)
set_option maxRecDepth 20000 in
theorem gL_law_X2_time : GoodIn wsL_law (wsV RL 121 RX2 yX2_time wsX2_time) := goodIn_app (goodIn_of _ (by decide +kernel)) ggL_law_X2_time
set_option maxRecDepth 20000 in
theorem ggL_law_X3_time : GoodIn wsL_law wsX3_time := goodIn_r _ [410, 88, 388, 585, 586, 587, 588, 589, 590, 591, 592, 593, 594, 595, 596, 597, 598, 599, 600, 601, 602, 603, 604, 605, 606] (by decide +kernel) (by decide +kernel)
set_option maxRecDepth 20000 in
theorem gL_law_X3_time : GoodIn wsL_law (wsV RL 124 RX3 yX3_time wsX3_time) := goodIn_app (goodIn_of _ (by decide +kernel)) ggL_law_X3_time
set_option maxRecDepth 20000 in
theorem ggL_law_X2_lanterns : GoodIn wsL_law wsX2_lanterns := goodIn_r _ [414, 20, 573, 574, 575, 576, 577, 578, 579, 580, 581, 582, 583, 584] (by decide +kernel) (by decide +kernel)
set_option maxRecDepth 20000 in
theorem gL_law_X2_lanterns : GoodIn wsL_law (wsV RL 125 RX2 yX2_lanterns wsX2_lanterns) := goodIn_app (goodIn_of _ (by decide +kernel)) ggL_law_X2_lanterns
set_option maxRecDepth 20000 in
theorem ggL_law_X3_lanterns : GoodIn wsL_law wsX3_lanterns := goodIn_r _ [418, 88, 80, 585, 586, 587, 588, 589, 590, 591, 592, 593, 594, 595, 596, 597, 598, 599, 600, 601, 602, 603, 604, 605, 606] (by decide +kernel) (by decide +kernel)
set_option maxRecDepth 20000 in
theorem gL_law_X3_lanterns : GoodIn wsL_law (wsV RL 128 RX3 yX3_lanterns wsX3_lanterns) := goodIn_app (goodIn_of _ (by decide +kernel)) ggL_law_X3_lanterns
set_option maxRecDepth 20000 in
theorem ggL_law_L_stateOf : GoodIn wsL_law wsL_stateOf := goodIn_ca (goodIn_r _ [421, 96, 422, 423, 424, 2, 425, 191, 106, 107, 108, 109, 101, 102, 14, 62, 63, 64, 607, 608, 609, 610, 611, 612, 613, 573, 574, 575, 576, 577, 578, 579, 580, 581, 582, 583, 584] (by decide +kernel) (by decide +kernel)) (goodIn_sub (fun _ h => List.mem_append_right _ h) (by decide +kernel))
set_option maxRecDepth 20000 in
theorem gL_law_L_stateOf : GoodIn wsL_law (va_wsS RL 129 yL_stateOf wsL_stateOf) := goodIn_app (goodIn_of _ (by decide +kernel)) ggL_law_L_stateOf
set_option maxRecDepth 20000 in
theorem ggL_law_X3_stateOf : GoodIn wsL_law wsX3_stateOf := goodIn_r _ [429, 35, 139, 140, 141, 5, 142, 80, 81, 82, 83, 84, 85, 86, 87, 88, 585, 586, 587, 588, 589, 590, 591, 592, 593, 594, 595, 596, 597, 598, 599, 600, 601, 602, 603, 604, 605, 606] (by decide +kernel) (by decide +kernel)
set_option maxRecDepth 20000 in
theorem gL_law_X3_stateOf : GoodIn wsL_law (wsV RL 131 RX3 yX3_stateOf wsX3_stateOf) := goodIn_app (goodIn_of _ (by decide +kernel)) ggL_law_X3_stateOf
set_option maxRecDepth 20000 in
theorem ggL_law_L_left : GoodIn wsL_law wsL_left := goodIn_ca (goodIn_r _ [432, 96, 433, 434, 435, 2, 436, 192, 106, 107, 108, 109, 101, 102, 14, 62, 63, 64, 607, 608, 609, 610, 611, 612, 613, 573, 574, 575, 576, 577, 578, 579, 580, 581, 582, 583, 584] (by decide +kernel) (by decide +kernel)) (goodIn_sub (fun _ h => List.mem_append_right _ h) (by decide +kernel))
set_option maxRecDepth 20000 in
theorem gL_law_L_left : GoodIn wsL_law (va_wsS RL 132 yL_left wsL_left) := goodIn_app (goodIn_of _ (by decide +kernel)) ggL_law_L_left
set_option maxRecDepth 20000 in
theorem ggL_law_X3_left : GoodIn wsL_law wsX3_left := goodIn_r _ [440, 36, 139, 140, 141, 5, 142, 80, 81, 82, 83, 84, 85, 86, 87, 88, 585, 586, 587, 588, 589, 590, 591, 592, 593, 594, 595, 596, 597, 598, 599, 600, 601, 602, 603, 604, 605, 606] (by decide +kernel) (by decide +kernel)
set_option maxRecDepth 20000 in
theorem gL_law_X3_left : GoodIn wsL_law (wsV RL 134 RX3 yX3_left wsX3_left) := goodIn_app (goodIn_of _ (by decide +kernel)) ggL_law_X3_left
set_option maxRecDepth 20000 in
theorem ggL_law_L_placeOf : GoodIn wsL_law wsL_placeOf := goodIn_ca (goodIn_r _ [443, 96, 444, 445, 446, 2, 447, 106, 107, 108, 109, 101, 102, 14, 62, 63, 64, 193, 194, 195, 61, 196, 70, 197, 198, 71, 573, 574, 575, 576, 577, 578, 579, 580, 581, 582, 583, 584, 607, 608, 609, 610, 611, 612, 613, 614, 615, 616, 617, 618, 619, 620] (by decide +kernel) (by decide +kernel)) (goodIn_sub (fun _ h => List.mem_append_right _ h) (by decide +kernel))
set_option maxRecDepth 20000 in
theorem gL_law_L_placeOf : GoodIn wsL_law (va_wsS RL 135 yL_placeOf wsL_placeOf) := goodIn_app (goodIn_of _ (by decide +kernel)) ggL_law_L_placeOf
set_option maxRecDepth 20000 in
theorem ggL_law_X3_placeOf : GoodIn wsL_law wsX3_placeOf := goodIn_r _ [451, 139, 140, 141, 5, 142, 80, 81, 82, 83, 84, 85, 86, 87, 88, 217, 218, 219, 220, 37, 41, 230, 231, 232, 233, 42, 38, 585, 586, 587, 588, 589, 590, 591, 592, 593, 594, 595, 596, 597, 598, 599, 600, 601, 602, 603, 604, 605, 606] (by decide +kernel) (by decide +kernel)
set_option maxRecDepth 20000 in
theorem gL_law_X3_placeOf : GoodIn wsL_law (wsV RL 137 RX3 yX3_placeOf wsX3_placeOf) := goodIn_app (goodIn_of _ (by decide +kernel)) ggL_law_X3_placeOf
set_option maxRecDepth 20000 in
theorem ggL_law_L_nearest : GoodIn wsL_law wsL_nearest := goodIn_ca (goodIn_r _ [454, 96, 455, 456, 457, 2, 458, 103, 104, 276, 106, 107, 108, 109, 101, 102, 14, 62, 63, 64, 459, 460, 461, 117, 462, 119, 463, 464, 209, 210, 61, 211, 212, 194, 195, 196, 70, 197, 198, 71, 465, 466, 467, 352, 349, 353, 468, 348, 350, 469, 470, 471, 472, 17, 473, 474, 475, 476, 477, 607, 608, 609, 610, 611, 612, 613, 614, 615, 616, 617, 618, 619, 620, 573, 574, 575, 576, 577, 578, 579, 580, 581, 582, 583, 584] (by decide +kernel) (by decide +kernel)) (goodIn_sub (fun _ h => List.mem_append_right _ h) (by decide +kernel))
set_option maxRecDepth 20000 in
theorem gL_law_L_nearest : GoodIn wsL_law (va_wsS RL 138 yL_nearest wsL_nearest) := goodIn_app (goodIn_of _ (by decide +kernel)) ggL_law_L_nearest
set_option maxRecDepth 20000 in
theorem ggL_law_X3_nearest : GoodIn wsL_law wsX3_nearest := goodIn_r _ [481, 80, 35, 139, 140, 141, 5, 142, 81, 82, 83, 84, 85, 86, 87, 88, 217, 218, 219, 220, 37, 41, 226, 227, 228, 229, 230, 231, 232, 233, 42, 38, 585, 586, 587, 588, 589, 590, 591, 592, 593, 594, 595, 596, 597, 598, 599, 600, 601, 602, 603, 604, 605, 606] (by decide +kernel) (by decide +kernel)
set_option maxRecDepth 20000 in
theorem gL_law_X3_nearest : GoodIn wsL_law (wsV RL 140 RX3 yX3_nearest wsX3_nearest) := goodIn_app (goodIn_of _ (by decide +kernel)) ggL_law_X3_nearest
set_option maxRecDepth 20000 in
theorem ggL_law_L_nearestOfAll : GoodIn wsL_law wsL_nearestOfAll := goodIn_ca (goodIn_r _ [484, 96, 485, 486, 487, 2, 488, 14, 191, 106, 107, 108, 109, 101, 102, 62, 63, 64, 193, 194, 195, 61, 196, 70, 197, 198, 71, 208, 209, 210, 211, 212, 477, 465, 466, 467, 352, 349, 353, 468, 348, 350, 573, 574, 575, 576, 577, 578, 579, 580, 581, 582, 583, 584, 607, 608, 609, 610, 611, 612, 613, 614, 615, 616, 617, 618, 619, 620] (by decide +kernel) (by decide +kernel)) (goodIn_sub (fun _ h => List.mem_append_right _ h) (by decide +kernel))
set_option maxRecDepth 20000 in
theorem gL_law_L_nearestOfAll : GoodIn wsL_law (va_wsS RL 141 yL_nearestOfAll wsL_nearestOfAll) := goodIn_app (goodIn_of _ (by decide +kernel)) ggL_law_L_nearestOfAll
set_option maxRecDepth 20000 in
theorem ggL_law_X3_nearestOfAll : GoodIn wsL_law wsX3_nearestOfAll := goodIn_r _ [492, 493, 479, 480, 5, 481, 80, 35, 139, 140, 141, 142, 81, 82, 83, 84, 85, 86, 87, 88, 217, 218, 219, 220, 37, 41, 226, 227, 228, 229, 230, 231, 232, 233, 42, 38, 585, 586, 587, 588, 589, 590, 591, 592, 593, 594, 595, 596, 597, 598, 599, 600, 601, 602, 603, 604, 605, 606] (by decide +kernel) (by decide +kernel)
set_option maxRecDepth 20000 in
theorem gL_law_X3_nearestOfAll : GoodIn wsL_law (wsV RL 143 RX3 yX3_nearestOfAll wsX3_nearestOfAll) := goodIn_app (goodIn_of _ (by decide +kernel)) ggL_law_X3_nearestOfAll
set_option maxRecDepth 20000 in
theorem ggL_law_X2_blownOut : GoodIn wsL_law wsX2_blownOut := goodIn_r _ [497, 26, 573, 574, 575, 576, 577, 578, 579, 580, 581, 582, 583, 584] (by decide +kernel) (by decide +kernel)
set_option maxRecDepth 20000 in
theorem gL_law_X2_blownOut : GoodIn wsL_law (wsV RL 144 RX2 yX2_blownOut wsX2_blownOut) := goodIn_app (goodIn_of _ (by decide +kernel)) ggL_law_X2_blownOut
set_option maxRecDepth 20000 in
theorem ggL_law_X3_blownOut : GoodIn wsL_law wsX3_blownOut := goodIn_r _ [501, 88, 401, 585, 586, 587, 588, 589, 590, 591, 592, 593, 594, 595, 596, 597, 598, 599, 600, 601, 602, 603, 604, 605, 606] (by decide +kernel) (by decide +kernel)
set_option maxRecDepth 20000 in
theorem gL_law_X3_blownOut : GoodIn wsL_law (wsV RL 147 RX3 yX3_blownOut wsX3_blownOut) := goodIn_app (goodIn_of _ (by decide +kernel)) ggL_law_X3_blownOut
set_option maxRecDepth 20000 in
theorem ggL_law_X2_ordered : GoodIn wsL_law wsX2_ordered := goodIn_r _ [505, 27, 573, 574, 575, 576, 577, 578, 579, 580, 581, 582, 583, 584] (by decide +kernel) (by decide +kernel)
set_option maxRecDepth 20000 in
theorem gL_law_X2_ordered : GoodIn wsL_law (wsV RL 148 RX2 yX2_ordered wsX2_ordered) := goodIn_app (goodIn_of _ (by decide +kernel)) ggL_law_X2_ordered
set_option maxRecDepth 20000 in
theorem ggL_law_X3_ordered : GoodIn wsL_law wsX3_ordered := goodIn_r _ [509, 88, 402, 585, 586, 587, 588, 589, 590, 591, 592, 593, 594, 595, 596, 597, 598, 599, 600, 601, 602, 603, 604, 605, 606] (by decide +kernel) (by decide +kernel)
set_option maxRecDepth 20000 in
theorem gL_law_X3_ordered : GoodIn wsL_law (wsV RL 151 RX3 yX3_ordered wsX3_ordered) := goodIn_app (goodIn_of _ (by decide +kernel)) ggL_law_X3_ordered
set_option maxRecDepth 20000 in
theorem ggL_law_L_sortOf : GoodIn wsL_law wsL_sortOf := goodIn_ca (goodIn_r _ [512, 96, 513, 514, 515, 2, 516, 104, 110, 111, 112, 113, 101, 102, 16, 62, 63, 64, 614, 615, 616, 617, 618, 619, 620, 573, 574, 575, 576, 577, 578, 579, 580, 581, 582, 583, 584] (by decide +kernel) (by decide +kernel)) (goodIn_sub (fun _ h => List.mem_append_right _ h) (by decide +kernel))
set_option maxRecDepth 20000 in
theorem gL_law_L_sortOf : GoodIn wsL_law (va_wsS RL 152 yL_sortOf wsL_sortOf) := goodIn_app (goodIn_of _ (by decide +kernel)) ggL_law_L_sortOf
set_option maxRecDepth 20000 in
theorem ggL_law_X3_sortOf : GoodIn wsL_law wsX3_sortOf := goodIn_r _ [520, 41, 143, 144, 145, 5, 146, 147, 81, 82, 83, 84, 85, 86, 87, 88, 585, 586, 587, 588, 589, 590, 591, 592, 593, 594, 595, 596, 597, 598, 599, 600, 601, 602, 603, 604, 605, 606] (by decide +kernel) (by decide +kernel)
set_option maxRecDepth 20000 in
theorem gL_law_X3_sortOf : GoodIn wsL_law (wsV RL 154 RX3 yX3_sortOf wsX3_sortOf) := goodIn_app (goodIn_of _ (by decide +kernel)) ggL_law_X3_sortOf
set_option maxRecDepth 20000 in
theorem ggL_law_L_front : GoodIn wsL_law wsL_front := goodIn_ca (goodIn_r _ [523, 96, 524, 525, 526, 2, 527, 104, 275, 110, 111, 112, 113, 101, 102, 16, 62, 63, 64, 614, 615, 616, 617, 618, 619, 620, 573, 574, 575, 576, 577, 578, 579, 580, 581, 582, 583, 584] (by decide +kernel) (by decide +kernel)) (goodIn_sub (fun _ h => List.mem_append_right _ h) (by decide +kernel))
set_option maxRecDepth 20000 in
theorem gL_law_L_front : GoodIn wsL_law (va_wsS RL 155 yL_front wsL_front) := goodIn_app (goodIn_of _ (by decide +kernel)) ggL_law_L_front
set_option maxRecDepth 20000 in
theorem ggL_law_X3_front : GoodIn wsL_law wsX3_front := goodIn_r _ [531, 41, 42, 143, 144, 145, 5, 146, 147, 81, 82, 83, 84, 85, 86, 87, 88, 585, 586, 587, 588, 589, 590, 591, 592, 593, 594, 595, 596, 597, 598, 599, 600, 601, 602, 603, 604, 605, 606] (by decide +kernel) (by decide +kernel)
set_option maxRecDepth 20000 in
theorem gL_law_X3_front : GoodIn wsL_law (wsV RL 157 RX3 yX3_front wsX3_front) := goodIn_app (goodIn_of _ (by decide +kernel)) ggL_law_X3_front
set_option maxRecDepth 20000 in
theorem ggL_law_L_load : GoodIn wsL_law wsL_load := goodIn_ca (goodIn_r _ [534, 96, 535, 536, 537, 2, 538, 110, 111, 112, 113, 101, 102, 16, 62, 63, 64, 120, 121, 122, 117, 123, 119, 124, 125, 126, 61, 127, 72, 73, 74, 573, 574, 575, 576, 577, 578, 579, 580, 581, 582, 583, 584, 614, 615, 616, 617, 618, 619, 620, 607, 608, 609, 610, 611, 612, 613] (by decide +kernel) (by decide +kernel)) (goodIn_sub (fun _ h => List.mem_append_right _ h) (by decide +kernel))
set_option maxRecDepth 20000 in
theorem gL_law_L_load : GoodIn wsL_law (va_wsS RL 158 yL_load wsL_load) := goodIn_app (goodIn_of _ (by decide +kernel)) ggL_law_L_load
set_option maxRecDepth 20000 in
theorem ggL_law_X3_load : GoodIn wsL_law wsX3_load := goodIn_r _ [542, 143, 144, 145, 5, 146, 147, 81, 82, 83, 84, 85, 86, 87, 88, 148, 149, 150, 151, 80, 37, 152, 153, 154, 155, 32, 33, 34, 585, 586, 587, 588, 589, 590, 591, 592, 593, 594, 595, 596, 597, 598, 599, 600, 601, 602, 603, 604, 605, 606] (by decide +kernel) (by decide +kernel)
set_option maxRecDepth 20000 in
theorem gL_law_X3_load : GoodIn wsL_law (wsV RL 160 RX3 yX3_load wsX3_load) := goodIn_app (goodIn_of _ (by decide +kernel)) ggL_law_X3_load
set_option maxRecDepth 20000 in
theorem ggL_law_L_likeness : GoodIn wsL_law wsL_likeness := goodIn_ca (goodIn_ca (goodIn_r _ [545, 96, 50, 546, 547, 548, 2, 549, 56, 57, 110, 111, 112, 113, 101, 102, 16, 62, 63, 64, 550, 551, 552, 117, 553, 119, 463, 573, 574, 575, 576, 577, 578, 579, 580, 581, 582, 583, 584, 614, 615, 616, 617, 618, 619, 620, 607, 608, 609, 610, 611, 612, 613] (by decide +kernel) (by decide +kernel)) (goodIn_sub (fun _ h => List.mem_append_left _ (List.mem_append_left _ (List.mem_append_right _ h))) (by decide +kernel))) (goodIn_sub (fun _ h => List.mem_append_right _ h) (by decide +kernel))
set_option maxRecDepth 20000 in
theorem gL_law_L_likeness : GoodIn wsL_law (va_wsS RL 161 yL_likeness wsL_likeness) := goodIn_app (goodIn_of _ (by decide +kernel)) ggL_law_L_likeness
set_option maxRecDepth 20000 in
theorem ggL_law_X3_likeness : GoodIn wsL_law wsX3_likeness := goodIn_r _ [557, 143, 144, 145, 5, 146, 147, 81, 82, 83, 84, 85, 86, 87, 88, 558, 559, 560, 561, 80, 37, 35, 38, 585, 586, 587, 588, 589, 590, 591, 592, 593, 594, 595, 596, 597, 598, 599, 600, 601, 602, 603, 604, 605, 606] (by decide +kernel) (by decide +kernel)
set_option maxRecDepth 20000 in
theorem gL_law_X3_likeness : GoodIn wsL_law (wsV RL 163 RX3 yX3_likeness wsX3_likeness) := goodIn_app (goodIn_of _ (by decide +kernel)) ggL_law_X3_likeness
set_option maxRecDepth 20000 in
theorem ggL_law_L_prize : GoodIn wsL_law wsL_prize := goodIn_ca (goodIn_r _ [564, 50, 565, 566, 567, 2, 568, 56, 57, 17, 104, 167, 62, 63, 64, 550, 551, 552, 117, 553, 119, 463, 573, 574, 575, 576, 577, 578, 579, 580, 581, 582, 583, 584, 614, 615, 616, 617, 618, 619, 620, 607, 608, 609, 610, 611, 612, 613] (by decide +kernel) (by decide +kernel)) (goodIn_sub (fun _ h => List.mem_append_left _ (List.mem_append_left _ (List.mem_append_right _ h))) (by decide +kernel))
set_option maxRecDepth 20000 in
theorem gL_law_L_prize : GoodIn wsL_law (va_wsS RL 164 yL_prize wsL_prize) := goodIn_app (goodIn_of _ (by decide +kernel)) ggL_law_L_prize
set_option maxRecDepth 20000 in
theorem ggL_law_X3_prize : GoodIn wsL_law wsX3_prize := goodIn_r _ [572, 293, 43, 41, 81, 82, 5, 83, 84, 85, 86, 87, 88, 558, 559, 560, 561, 80, 37, 35, 38, 585, 586, 587, 588, 589, 590, 591, 592, 593, 594, 595, 596, 597, 598, 599, 600, 601, 602, 603, 604, 605, 606] (by decide +kernel) (by decide +kernel)
set_option maxRecDepth 20000 in
theorem gL_law_X3_prize : GoodIn wsL_law (wsV RL 166 RX3 yX3_prize wsX3_prize) := goodIn_app (goodIn_of _ (by decide +kernel)) ggL_law_X3_prize
