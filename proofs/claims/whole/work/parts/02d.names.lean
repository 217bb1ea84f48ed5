set_option maxRecDepth 20000 in
theorem ggL_law_X0_init : GoodIn wsL_law wsX0_init := goodIn_r _ [9, 10, 11, 12, 13, 14, 15, 16, 17, 6, 18, 19, 20, 21, 22, 23, 24, 25, 26, 27, 468, 469, 470, 471, 472, 473, 474, 475, 476, 477, 478, 479, 480, 481] (by decide +kernel) (by decide +kernel)
set_option maxRecDepth 20000 in
theorem gL_law_X0_init : GoodIn wsL_law (wsX0_init) := ggL_law_X0_init
set_option maxRecDepth 20000 in
theorem ggL_law_X1_init : GoodIn wsL_law wsX1_init := goodIn_r _ [30, 31, 11, 12, 14, 32, 33, 34, 6, 35, 36, 37, 38, 482, 483, 484, 485, 486, 487, 488, 489, 490, 491] (by decide +kernel) (by decide +kernel)
set_option maxRecDepth 20000 in
theorem gL_law_X1_init : GoodIn wsL_law (wsX1_init) := ggL_law_X1_init
set_option maxRecDepth 20000 in
theorem ggL_law_L_insert : GoodIn wsL_law wsL_insert := goodIn_ca (goodIn_ca (goodIn_ca (goodIn_r _ [42, 43, 44, 45, 46, 47, 48, 2, 49, 50, 51, 21, 25, 52, 53, 54, 55, 56, 57, 58, 59, 60, 61, 22, 26, 24, 23, 62, 63, 64, 65, 13, 17, 66, 67, 68, 69, 70, 71, 72, 73, 74, 75, 76, 16, 77, 78, 79, 80, 81, 82, 83, 84, 85, 86, 87, 88, 89, 90, 91, 92, 93, 94, 95, 96, 97, 98, 99, 100, 101, 102, 15, 18, 19, 103, 104, 105, 106, 107, 108, 109, 110, 20, 111, 112, 113, 114, 468, 469, 470, 471, 472, 473, 474, 475, 476, 477, 478, 479, 480, 481] (by decide +kernel) (by decide +kernel)) (goodIn_sub (fun _ h => List.mem_append_left _ (List.mem_append_left _ (List.mem_append_right _ h))) (by decide +kernel))) (goodIn_sub (fun _ h => List.mem_append_left _ (List.mem_append_right _ h)) (by decide +kernel))) (goodIn_sub (fun _ h => List.mem_append_right _ h) (by decide +kernel))
set_option maxRecDepth 20000 in
theorem gL_law_L_insert : GoodIn wsL_law (va_wsS RL 88 yL_insert wsL_insert) := goodIn_app (goodIn_of _ (by decide +kernel)) ggL_law_L_insert
set_option maxRecDepth 20000 in
theorem ggL_law_X1_insert : GoodIn wsL_law wsX1_insert := goodIn_r _ [118, 119, 120, 38, 121, 122, 123, 5, 124, 37, 125, 126, 127, 128, 129, 130, 131, 132, 133, 134, 33, 34, 135, 136, 137, 138, 139, 140, 141, 142, 143, 144, 145, 146, 32, 35, 36, 147, 148, 149, 150, 151, 482, 483, 484, 485, 486, 487, 488, 489, 490, 491] (by decide +kernel) (by decide +kernel)
set_option maxRecDepth 20000 in
theorem gL_law_X1_insert : GoodIn wsL_law (wsV RL 93 RX1 yX1_insert wsX1_insert) := goodIn_app (goodIn_of _ (by decide +kernel)) ggL_law_X1_insert
set_option maxRecDepth 20000 in
theorem ggL_law_X1_thrown : GoodIn wsL_law wsX1_thrown := goodIn_r _ [155, 142, 482, 483, 484, 485, 486, 487, 488, 489, 490, 491] (by decide +kernel) (by decide +kernel)
set_option maxRecDepth 20000 in
theorem gL_law_X1_thrown : GoodIn wsL_law (wsV RL 94 RX1 yX1_thrown wsX1_thrown) := goodIn_app (goodIn_of _ (by decide +kernel)) ggL_law_X1_thrown
set_option maxRecDepth 20000 in
theorem ggL_law_L_delete : GoodIn wsL_law wsL_delete := goodIn_ca (goodIn_ca (goodIn_r _ [158, 43, 45, 159, 160, 161, 2, 162, 21, 25, 52, 53, 54, 55, 56, 57, 58, 59, 60, 61, 22, 26, 24, 23, 62, 63, 64, 65, 13, 17, 66, 67, 68, 69, 70, 71, 72, 73, 74, 75, 76, 16, 77, 78, 79, 80, 81, 82, 83, 84, 85, 86, 87, 88, 89, 90, 91, 92, 93, 94, 95, 96, 97, 98, 99, 100, 101, 102, 15, 18, 19, 103, 104, 105, 106, 107, 108, 109, 110, 20, 468, 469, 470, 471, 472, 473, 474, 475, 476, 477, 478, 479, 480, 481] (by decide +kernel) (by decide +kernel)) (goodIn_sub (fun _ h => List.mem_append_left _ (List.mem_append_right _ h)) (by decide +kernel))) (goodIn_sub (fun _ h => List.mem_append_right _ h) (by decide +kernel))
set_option maxRecDepth 20000 in
theorem gL_law_L_delete : GoodIn wsL_law (va_wsS RL 98 yL_delete wsL_delete) := goodIn_app (goodIn_of _ (by decide +kernel)) ggL_law_L_delete
set_option maxRecDepth 20000 in
theorem ggL_law_X1_delete : GoodIn wsL_law wsX1_delete := goodIn_r _ [166, 119, 120, 38, 121, 122, 123, 5, 124, 37, 125, 126, 127, 128, 129, 130, 131, 132, 133, 134, 33, 34, 135, 136, 137, 167, 168, 169, 170, 142, 143, 144, 145, 146, 32, 35, 36, 147, 148, 149, 150, 151, 482, 483, 484, 485, 486, 487, 488, 489, 490, 491] (by decide +kernel) (by decide +kernel)
set_option maxRecDepth 20000 in
theorem gL_law_X1_delete : GoodIn wsL_law (wsV RL 101 RX1 yX1_delete wsX1_delete) := goodIn_app (goodIn_of _ (by decide +kernel)) ggL_law_X1_delete
set_option maxRecDepth 20000 in
theorem ggL_law_L_learn : GoodIn wsL_law wsL_learn := goodIn_ca (goodIn_r _ [173, 43, 174, 175, 176, 2, 177, 21, 52, 53, 54, 55, 56, 57, 178, 179, 180, 181, 66, 182, 183, 184, 185, 186, 187, 188, 468, 469, 470, 471, 472, 473, 474, 475, 476, 477, 478, 479, 480, 481] (by decide +kernel) (by decide +kernel)) (goodIn_sub (fun _ h => List.mem_append_left _ (List.mem_append_right _ h)) (by decide +kernel))
set_option maxRecDepth 20000 in
theorem gL_law_L_learn : GoodIn wsL_law (va_wsS RL 102 yL_learn wsL_learn) := goodIn_app (goodIn_of _ (by decide +kernel)) ggL_law_L_learn
set_option maxRecDepth 20000 in
theorem ggL_law_X1_learn : GoodIn wsL_law wsX1_learn := goodIn_r _ [192, 37, 125, 126, 5, 127, 128, 129, 130, 193, 194, 195, 196, 142, 197, 198, 199, 200, 201, 202, 203, 204, 120, 135, 136, 137, 482, 483, 484, 485, 486, 487, 488, 489, 490, 491] (by decide +kernel) (by decide +kernel)
set_option maxRecDepth 20000 in
theorem gL_law_X1_learn : GoodIn wsL_law (wsV RL 104 RX1 yX1_learn wsX1_learn) := goodIn_app (goodIn_of _ (by decide +kernel)) ggL_law_X1_learn
set_option maxRecDepth 20000 in
theorem ggL_law_L_learnEvent : GoodIn wsL_law wsL_learnEvent := goodIn_ca (goodIn_r _ [207, 43, 208, 209, 210, 2, 211, 52, 53, 54, 55, 56, 57, 212, 213, 214, 215, 81, 82, 83, 84, 13, 216, 217, 218, 219, 19, 70, 71, 72, 178, 179, 180, 181, 21, 66, 182, 183, 184, 185, 186, 187, 188, 468, 469, 470, 471, 472, 473, 474, 475, 476, 477, 478, 479, 480, 481] (by decide +kernel) (by decide +kernel)) (goodIn_sub (fun _ h => List.mem_append_left _ (List.mem_append_right _ h)) (by decide +kernel))
set_option maxRecDepth 20000 in
theorem gL_law_L_learnEvent : GoodIn wsL_law (va_wsS RL 105 yL_learnEvent wsL_learnEvent) := goodIn_app (goodIn_of _ (by decide +kernel)) ggL_law_L_learnEvent
set_option maxRecDepth 20000 in
theorem ggL_law_X1_learnEvent : GoodIn wsL_law wsX1_learnEvent := goodIn_r _ [223, 125, 126, 5, 127, 128, 129, 130, 224, 225, 226, 227, 120, 193, 194, 195, 196, 142, 228, 229, 230, 231, 36, 197, 198, 199, 200, 37, 201, 202, 203, 204, 135, 136, 137, 482, 483, 484, 485, 486, 487, 488, 489, 490, 491] (by decide +kernel) (by decide +kernel)
set_option maxRecDepth 20000 in
theorem gL_law_X1_learnEvent : GoodIn wsL_law (wsV RL 107 RX1 yX1_learnEvent wsX1_learnEvent) := goodIn_app (goodIn_of _ (by decide +kernel)) ggL_law_X1_learnEvent
set_option maxRecDepth 20000 in
theorem ggL_law_X0_events : GoodIn wsL_law wsX0_events := goodIn_r _ [235, 13, 468, 469, 470, 471, 472, 473, 474, 475, 476, 477, 478, 479, 480, 481] (by decide +kernel) (by decide +kernel)
set_option maxRecDepth 20000 in
theorem gL_law_X0_events : GoodIn wsL_law (wsV RL 108 RX0 yX0_events wsX0_events) := goodIn_app (goodIn_of _ (by decide +kernel)) ggL_law_X0_events
set_option maxRecDepth 20000 in
theorem ggL_law_X1_events : GoodIn wsL_law wsX1_events := goodIn_r _ [239, 142, 120, 482, 483, 484, 485, 486, 487, 488, 489, 490, 491] (by decide +kernel) (by decide +kernel)
set_option maxRecDepth 20000 in
theorem gL_law_X1_events : GoodIn wsL_law (wsV RL 111 RX1 yX1_events wsX1_events) := goodIn_app (goodIn_of _ (by decide +kernel)) ggL_law_X1_events
set_option maxRecDepth 20000 in
theorem ggL_law_L_length : GoodIn wsL_law wsL_length := goodIn_ca (goodIn_r _ [242, 43, 243, 244, 245, 2, 246, 21, 52, 53, 54, 55, 56, 57, 58, 59, 60, 61, 22, 26, 24, 23, 62, 63, 64, 65, 13, 17, 66, 67, 68, 69, 70, 71, 72, 73, 74, 75, 76, 16, 77, 78, 79, 80, 81, 82, 83, 84, 85, 86, 87, 88, 25, 468, 469, 470, 471, 472, 473, 474, 475, 476, 477, 478, 479, 480, 481] (by decide +kernel) (by decide +kernel)) (goodIn_sub (fun _ h => List.mem_append_left _ (List.mem_append_right _ h)) (by decide +kernel))
set_option maxRecDepth 20000 in
theorem gL_law_L_length : GoodIn wsL_law (va_wsS RL 112 yL_length wsL_length) := goodIn_app (goodIn_of _ (by decide +kernel)) ggL_law_L_length
set_option maxRecDepth 20000 in
theorem ggL_law_X1_length : GoodIn wsL_law wsX1_length := goodIn_r _ [250, 119, 121, 122, 123, 5, 124, 37, 125, 126, 127, 128, 129, 130, 131, 132, 133, 134, 120, 33, 34, 38, 135, 136, 137, 193, 194, 195, 196, 142, 482, 483, 484, 485, 486, 487, 488, 489, 490, 491] (by decide +kernel) (by decide +kernel)
set_option maxRecDepth 20000 in
theorem gL_law_X1_length : GoodIn wsL_law (wsV RL 115 RX1 yX1_length wsX1_length) := goodIn_app (goodIn_of _ (by decide +kernel)) ggL_law_X1_length
set_option maxRecDepth 20000 in
theorem ggL_law_L_letterAt : GoodIn wsL_law wsL_letterAt := goodIn_ca (goodIn_r _ [253, 43, 254, 255, 256, 2, 257, 16, 21, 52, 53, 54, 55, 56, 57, 258, 259, 260, 261, 25, 58, 59, 60, 61, 22, 26, 24, 23, 62, 63, 64, 65, 13, 17, 66, 67, 68, 69, 70, 71, 72, 73, 74, 75, 76, 77, 78, 79, 80, 81, 82, 83, 84, 85, 86, 87, 88, 89, 90, 91, 92, 468, 469, 470, 471, 472, 473, 474, 475, 476, 477, 478, 479, 480, 481] (by decide +kernel) (by decide +kernel)) (goodIn_sub (fun _ h => List.mem_append_left _ (List.mem_append_right _ h)) (by decide +kernel))
set_option maxRecDepth 20000 in
theorem gL_law_L_letterAt : GoodIn wsL_law (va_wsS RL 116 yL_letterAt wsL_letterAt) := goodIn_app (goodIn_of _ (by decide +kernel)) ggL_law_L_letterAt
set_option maxRecDepth 20000 in
theorem ggL_law_X1_letterAt : GoodIn wsL_law wsX1_letterAt := goodIn_r _ [265, 119, 33, 38, 121, 122, 123, 5, 124, 37, 125, 126, 127, 128, 129, 130, 131, 132, 133, 134, 120, 34, 135, 136, 137, 193, 194, 195, 196, 142, 482, 483, 484, 485, 486, 487, 488, 489, 490, 491] (by decide +kernel) (by decide +kernel)
set_option maxRecDepth 20000 in
theorem gL_law_X1_letterAt : GoodIn wsL_law (wsV RL 118 RX1 yX1_letterAt wsX1_letterAt) := goodIn_app (goodIn_of _ (by decide +kernel)) ggL_law_X1_letterAt
set_option maxRecDepth 20000 in
theorem ggL_law_L_letterByList : GoodIn wsL_law wsL_letterByList := goodIn_ca (goodIn_r _ [268, 43, 269, 270, 271, 2, 272, 21, 16, 25, 52, 53, 54, 55, 56, 57, 273, 274, 275, 276, 27, 62, 63, 64, 65, 13, 17, 66, 67, 68, 69, 70, 71, 72, 73, 74, 75, 76, 277, 278, 279, 280, 81, 82, 83, 84, 85, 86, 87, 88, 89, 90, 91, 92, 468, 469, 470, 471, 472, 473, 474, 475, 476, 477, 478, 479, 480, 481] (by decide +kernel) (by decide +kernel)) (goodIn_sub (fun _ h => List.mem_append_left _ (List.mem_append_right _ h)) (by decide +kernel))
set_option maxRecDepth 20000 in
theorem gL_law_L_letterByList : GoodIn wsL_law (va_wsS RL 119 yL_letterByList wsL_letterByList) := goodIn_app (goodIn_of _ (by decide +kernel)) ggL_law_L_letterByList
set_option maxRecDepth 20000 in
theorem ggL_law_X1_letterByList : GoodIn wsL_law wsX1_letterByList := goodIn_r _ [284, 285, 263, 264, 5, 265, 119, 33, 38, 121, 122, 123, 124, 37, 125, 126, 127, 128, 129, 130, 131, 132, 133, 134, 120, 34, 135, 136, 137, 193, 194, 195, 196, 142, 482, 483, 484, 485, 486, 487, 488, 489, 490, 491] (by decide +kernel) (by decide +kernel)
set_option maxRecDepth 20000 in
theorem gL_law_X1_letterByList : GoodIn wsL_law (wsV RL 121 RX1 yX1_letterByList wsX1_letterByList) := goodIn_app (goodIn_of _ (by decide +kernel)) ggL_law_X1_letterByList
set_option maxRecDepth 20000 in
theorem ggL_law_L_eventAt : GoodIn wsL_law wsL_eventAt := goodIn_ca (goodIn_r _ [288, 43, 289, 290, 291, 2, 292, 21, 52, 53, 54, 55, 56, 57, 258, 259, 260, 261, 25, 58, 59, 60, 61, 22, 26, 24, 23, 62, 63, 64, 65, 13, 17, 66, 67, 68, 69, 70, 71, 72, 73, 74, 75, 76, 16, 77, 78, 79, 80, 81, 82, 83, 84, 85, 86, 87, 88, 89, 90, 91, 92, 468, 469, 470, 471, 472, 473, 474, 475, 476, 477, 478, 479, 480, 481] (by decide +kernel) (by decide +kernel)) (goodIn_sub (fun _ h => List.mem_append_left _ (List.mem_append_right _ h)) (by decide +kernel))
set_option maxRecDepth 20000 in
theorem gL_law_L_eventAt : GoodIn wsL_law (va_wsS RL 122 yL_eventAt wsL_eventAt) := goodIn_app (goodIn_of _ (by decide +kernel)) ggL_law_L_eventAt
set_option maxRecDepth 20000 in
theorem ggL_law_X1_eventAt : GoodIn wsL_law wsX1_eventAt := goodIn_r _ [296, 119, 38, 121, 122, 123, 5, 124, 37, 125, 126, 127, 128, 129, 130, 131, 132, 133, 134, 120, 33, 34, 135, 136, 137, 193, 194, 195, 196, 142, 482, 483, 484, 485, 486, 487, 488, 489, 490, 491] (by decide +kernel) (by decide +kernel)
set_option maxRecDepth 20000 in
theorem gL_law_X1_eventAt : GoodIn wsL_law (wsV RL 124 RX1 yX1_eventAt wsX1_eventAt) := goodIn_app (goodIn_of _ (by decide +kernel)) ggL_law_X1_eventAt
set_option maxRecDepth 20000 in
theorem ggL_law_L_lengthOf : GoodIn wsL_law wsL_lengthOf := goodIn_ca (goodIn_r _ [299, 43, 300, 301, 302, 2, 303, 212, 213, 214, 215, 56, 57, 81, 82, 83, 84, 13, 216, 217, 218, 219, 19, 70, 71, 72, 58, 59, 60, 61, 22, 26, 24, 23, 62, 63, 64, 65, 17, 66, 67, 68, 69, 73, 74, 75, 76, 16, 77, 78, 79, 80, 85, 86, 87, 88, 25, 468, 469, 470, 471, 472, 473, 474, 475, 476, 477, 478, 479, 480, 481] (by decide +kernel) (by decide +kernel)) (goodIn_sub (fun _ h => List.mem_append_left _ (List.mem_append_right _ h)) (by decide +kernel))
set_option maxRecDepth 20000 in
theorem gL_law_L_lengthOf : GoodIn wsL_law (va_wsS RL 125 yL_lengthOf wsL_lengthOf) := goodIn_app (goodIn_of _ (by decide +kernel)) ggL_law_L_lengthOf
set_option maxRecDepth 20000 in
theorem ggL_law_X1_lengthOf : GoodIn wsL_law wsX1_lengthOf := goodIn_r _ [307, 119, 308, 309, 310, 5, 311, 224, 225, 226, 227, 120, 128, 129, 130, 228, 229, 230, 231, 36, 131, 132, 133, 134, 33, 34, 38, 135, 136, 137, 193, 194, 195, 196, 142, 482, 483, 484, 485, 486, 487, 488, 489, 490, 491] (by decide +kernel) (by decide +kernel)
set_option maxRecDepth 20000 in
theorem gL_law_X1_lengthOf : GoodIn wsL_law (wsV RL 127 RX1 yX1_lengthOf wsX1_lengthOf) := goodIn_app (goodIn_of _ (by decide +kernel)) ggL_law_X1_lengthOf
set_option maxRecDepth 20000 in
theorem ggL_law_L_letterOf : GoodIn wsL_law wsL_letterOf := goodIn_ca (goodIn_r _ [314, 43, 315, 316, 317, 2, 318, 16, 212, 213, 214, 215, 56, 57, 81, 82, 83, 84, 13, 216, 217, 218, 219, 19, 70, 71, 72, 258, 259, 260, 261, 25, 58, 59, 60, 61, 22, 26, 24, 23, 62, 63, 64, 65, 17, 66, 67, 68, 69, 73, 74, 75, 76, 77, 78, 79, 80, 85, 86, 87, 88, 89, 90, 91, 92, 468, 469, 470, 471, 472, 473, 474, 475, 476, 477, 478, 479, 480, 481] (by decide +kernel) (by decide +kernel)) (goodIn_sub (fun _ h => List.mem_append_left _ (List.mem_append_right _ h)) (by decide +kernel))
set_option maxRecDepth 20000 in
theorem gL_law_L_letterOf : GoodIn wsL_law (va_wsS RL 128 yL_letterOf wsL_letterOf) := goodIn_app (goodIn_of _ (by decide +kernel)) ggL_law_L_letterOf
set_option maxRecDepth 20000 in
theorem ggL_law_X1_letterOf : GoodIn wsL_law wsX1_letterOf := goodIn_r _ [322, 119, 33, 38, 308, 309, 310, 5, 311, 224, 225, 226, 227, 120, 128, 129, 130, 228, 229, 230, 231, 36, 131, 132, 133, 134, 34, 135, 136, 137, 193, 194, 195, 196, 142, 482, 483, 484, 485, 486, 487, 488, 489, 490, 491] (by decide +kernel) (by decide +kernel)
set_option maxRecDepth 20000 in
theorem gL_law_X1_letterOf : GoodIn wsL_law (wsV RL 130 RX1 yX1_letterOf wsX1_letterOf) := goodIn_app (goodIn_of _ (by decide +kernel)) ggL_law_X1_letterOf
set_option maxRecDepth 20000 in
theorem ggL_law_L_lettersBy : GoodIn wsL_law wsL_lettersBy := goodIn_ca (goodIn_r _ [325, 43, 326, 327, 328, 2, 329, 21, 15, 25, 52, 53, 54, 55, 56, 57, 58, 59, 60, 61, 22, 26, 24, 23, 62, 63, 64, 65, 13, 17, 66, 67, 68, 69, 70, 71, 72, 73, 74, 75, 76, 16, 77, 78, 79, 80, 81, 82, 83, 84, 85, 86, 87, 88, 468, 469, 470, 471, 472, 473, 474, 475, 476, 477, 478, 479, 480, 481] (by decide +kernel) (by decide +kernel)) (goodIn_sub (fun _ h => List.mem_append_left _ (List.mem_append_right _ h)) (by decide +kernel))
set_option maxRecDepth 20000 in
theorem gL_law_L_lettersBy : GoodIn wsL_law (va_wsS RL 131 yL_lettersBy wsL_lettersBy) := goodIn_app (goodIn_of _ (by decide +kernel)) ggL_law_L_lettersBy
set_option maxRecDepth 20000 in
theorem ggL_law_X1_lettersBy : GoodIn wsL_law wsX1_lettersBy := goodIn_r _ [333, 37, 119, 32, 38, 125, 126, 5, 127, 128, 129, 130, 193, 194, 195, 196, 142, 131, 132, 133, 134, 120, 33, 34, 135, 136, 137, 482, 483, 484, 485, 486, 487, 488, 489, 490, 491] (by decide +kernel) (by decide +kernel)
set_option maxRecDepth 20000 in
theorem gL_law_X1_lettersBy : GoodIn wsL_law (wsV RL 133 RX1 yX1_lettersBy wsX1_lettersBy) := goodIn_app (goodIn_of _ (by decide +kernel)) ggL_law_X1_lettersBy
set_option maxRecDepth 20000 in
theorem ggL_law_L_authorOf : GoodIn wsL_law wsL_authorOf := goodIn_ca (goodIn_r _ [336, 43, 337, 338, 339, 2, 340, 15, 212, 213, 214, 215, 56, 57, 81, 82, 83, 84, 13, 468, 469, 470, 471, 472, 473, 474, 475, 476, 477, 478, 479, 480, 481] (by decide +kernel) (by decide +kernel)) (goodIn_sub (fun _ h => List.mem_append_left _ (List.mem_append_right _ h)) (by decide +kernel))
set_option maxRecDepth 20000 in
theorem gL_law_L_authorOf : GoodIn wsL_law (va_wsS RL 134 yL_authorOf wsL_authorOf) := goodIn_app (goodIn_of _ (by decide +kernel)) ggL_law_L_authorOf
set_option maxRecDepth 20000 in
theorem ggL_law_X1_authorOf : GoodIn wsL_law wsX1_authorOf := goodIn_r _ [344, 32, 224, 225, 226, 5, 227, 120, 128, 129, 130, 193, 194, 195, 196, 142, 482, 483, 484, 485, 486, 487, 488, 489, 490, 491] (by decide +kernel) (by decide +kernel)
set_option maxRecDepth 20000 in
theorem gL_law_X1_authorOf : GoodIn wsL_law (wsV RL 136 RX1 yX1_authorOf wsX1_authorOf) := goodIn_app (goodIn_of _ (by decide +kernel)) ggL_law_X1_authorOf
set_option maxRecDepth 20000 in
theorem ggL_law_L_parents : GoodIn wsL_law wsL_parents := goodIn_ca (goodIn_r _ [347, 43, 348, 349, 350, 2, 351, 18, 212, 213, 214, 215, 56, 57, 81, 82, 83, 84, 13, 468, 469, 470, 471, 472, 473, 474, 475, 476, 477, 478, 479, 480, 481] (by decide +kernel) (by decide +kernel)) (goodIn_sub (fun _ h => List.mem_append_left _ (List.mem_append_right _ h)) (by decide +kernel))
set_option maxRecDepth 20000 in
theorem gL_law_L_parents : GoodIn wsL_law (va_wsS RL 137 yL_parents wsL_parents) := goodIn_app (goodIn_of _ (by decide +kernel)) ggL_law_L_parents
set_option maxRecDepth 20000 in
theorem ggL_law_X1_parents : GoodIn wsL_law wsX1_parents := goodIn_r _ [355, 35, 224, 225, 226, 5, 227, 120, 128, 129, 130, 193, 194, 195, 196, 142, 482, 483, 484, 485, 486, 487, 488, 489, 490, 491] (by decide +kernel) (by decide +kernel)
set_option maxRecDepth 20000 in
theorem gL_law_X1_parents : GoodIn wsL_law (wsV RL 139 RX1 yX1_parents wsX1_parents) := goodIn_app (goodIn_of _ (by decide +kernel)) ggL_law_X1_parents
set_option maxRecDepth 20000 in
theorem ggL_law_L_isLater : GoodIn wsL_law wsL_isLater := goodIn_ca (goodIn_r _ [358, 43, 359, 360, 361, 2, 362, 19, 212, 213, 214, 215, 56, 57, 81, 82, 83, 84, 13, 67, 68, 69, 70, 71, 72, 468, 469, 470, 471, 472, 473, 474, 475, 476, 477, 478, 479, 480, 481] (by decide +kernel) (by decide +kernel)) (goodIn_sub (fun _ h => List.mem_append_left _ (List.mem_append_right _ h)) (by decide +kernel))
set_option maxRecDepth 20000 in
theorem gL_law_L_isLater : GoodIn wsL_law (va_wsS RL 140 yL_isLater wsL_isLater) := goodIn_app (goodIn_of _ (by decide +kernel)) ggL_law_L_isLater
set_option maxRecDepth 20000 in
theorem ggL_law_X1_isLater : GoodIn wsL_law wsX1_isLater := goodIn_r _ [366, 36, 224, 225, 226, 5, 227, 120, 128, 129, 130, 193, 194, 195, 196, 142, 135, 136, 137, 482, 483, 484, 485, 486, 487, 488, 489, 490, 491] (by decide +kernel) (by decide +kernel)
set_option maxRecDepth 20000 in
theorem gL_law_X1_isLater : GoodIn wsL_law (wsV RL 142 RX1 yX1_isLater wsX1_isLater) := goodIn_app (goodIn_of _ (by decide +kernel)) ggL_law_X1_isLater
set_option maxRecDepth 20000 in
theorem ggL_law_L_version : GoodIn wsL_law wsL_version := goodIn_ca (goodIn_r _ [369, 43, 370, 371, 372, 2, 373, 21, 52, 53, 54, 55, 56, 57, 468, 469, 470, 471, 472, 473, 474, 475, 476, 477, 478, 479, 480, 481] (by decide +kernel) (by decide +kernel)) (goodIn_sub (fun _ h => List.mem_append_left _ (List.mem_append_right _ h)) (by decide +kernel))
set_option maxRecDepth 20000 in
theorem gL_law_L_version : GoodIn wsL_law (va_wsS RL 143 yL_version wsL_version) := goodIn_app (goodIn_of _ (by decide +kernel)) ggL_law_L_version
set_option maxRecDepth 20000 in
theorem ggL_law_X1_version : GoodIn wsL_law wsX1_version := goodIn_r _ [377, 37, 125, 126, 5, 127, 128, 129, 130, 193, 194, 195, 196, 142, 482, 483, 484, 485, 486, 487, 488, 489, 490, 491] (by decide +kernel) (by decide +kernel)
set_option maxRecDepth 20000 in
theorem gL_law_X1_version : GoodIn wsL_law (wsV RL 145 RX1 yX1_version wsX1_version) := goodIn_app (goodIn_of _ (by decide +kernel)) ggL_law_X1_version
set_option maxRecDepth 20000 in
theorem ggL_law_L_heads : GoodIn wsL_law wsL_heads := goodIn_ca (goodIn_r _ [380, 43, 381, 382, 383, 2, 384, 21, 52, 53, 54, 55, 56, 57, 103, 104, 105, 106, 13, 18, 66, 67, 68, 69, 70, 71, 72, 468, 469, 470, 471, 472, 473, 474, 475, 476, 477, 478, 479, 480, 481] (by decide +kernel) (by decide +kernel)) (goodIn_sub (fun _ h => List.mem_append_left _ (List.mem_append_right _ h)) (by decide +kernel))
set_option maxRecDepth 20000 in
theorem gL_law_L_heads : GoodIn wsL_law (va_wsS RL 146 yL_heads wsL_heads) := goodIn_app (goodIn_of _ (by decide +kernel)) ggL_law_L_heads
set_option maxRecDepth 20000 in
theorem ggL_law_X1_heads : GoodIn wsL_law wsX1_heads := goodIn_r _ [388, 37, 125, 126, 5, 127, 128, 129, 130, 193, 194, 195, 196, 142, 147, 148, 149, 150, 120, 35, 151, 135, 136, 137, 482, 483, 484, 485, 486, 487, 488, 489, 490, 491] (by decide +kernel) (by decide +kernel)
set_option maxRecDepth 20000 in
theorem gL_law_X1_heads : GoodIn wsL_law (wsV RL 148 RX1 yX1_heads wsX1_heads) := goodIn_app (goodIn_of _ (by decide +kernel)) ggL_law_X1_heads
set_option maxRecDepth 20000 in
theorem ggL_law_L_commonHeads : GoodIn wsL_law wsL_commonHeads := goodIn_ca (goodIn_r _ [391, 43, 392, 393, 394, 2, 395, 21, 52, 53, 54, 55, 56, 57, 103, 104, 105, 106, 13, 18, 66, 67, 68, 69, 70, 71, 72, 468, 469, 470, 471, 472, 473, 474, 475, 476, 477, 478, 479, 480, 481] (by decide +kernel) (by decide +kernel)) (goodIn_sub (fun _ h => List.mem_append_left _ (List.mem_append_right _ h)) (by decide +kernel))
set_option maxRecDepth 20000 in
theorem gL_law_L_commonHeads : GoodIn wsL_law (va_wsS RL 149 yL_commonHeads wsL_commonHeads) := goodIn_app (goodIn_of _ (by decide +kernel)) ggL_law_L_commonHeads
set_option maxRecDepth 20000 in
theorem ggL_law_X1_commonHeads : GoodIn wsL_law wsX1_commonHeads := goodIn_r _ [399, 37, 125, 126, 5, 127, 128, 129, 130, 193, 194, 195, 196, 142, 147, 148, 149, 150, 120, 35, 151, 135, 136, 137, 482, 483, 484, 485, 486, 487, 488, 489, 490, 491] (by decide +kernel) (by decide +kernel)
set_option maxRecDepth 20000 in
theorem gL_law_X1_commonHeads : GoodIn wsL_law (wsV RL 151 RX1 yX1_commonHeads wsX1_commonHeads) := goodIn_app (goodIn_of _ (by decide +kernel)) ggL_law_X1_commonHeads
set_option maxRecDepth 20000 in
theorem ggL_law_L_concurrent : GoodIn wsL_law wsL_concurrent := goodIn_ca (goodIn_r _ [402, 43, 403, 404, 405, 2, 406, 21, 13, 66, 52, 53, 54, 55, 56, 57, 67, 68, 69, 70, 71, 72, 407, 408, 409, 410, 20, 216, 217, 218, 219, 19, 182, 183, 184, 185, 186, 187, 188, 468, 469, 470, 471, 472, 473, 474, 475, 476, 477, 478, 479, 480, 481] (by decide +kernel) (by decide +kernel)) (goodIn_sub (fun _ h => List.mem_append_left _ (List.mem_append_right _ h)) (by decide +kernel))
set_option maxRecDepth 20000 in
theorem gL_law_L_concurrent : GoodIn wsL_law (va_wsS RL 152 yL_concurrent wsL_concurrent) := goodIn_app (goodIn_of _ (by decide +kernel)) ggL_law_L_concurrent
set_option maxRecDepth 20000 in
theorem ggL_law_X1_concurrent : GoodIn wsL_law wsX1_concurrent := goodIn_r _ [414, 120, 37, 125, 126, 5, 127, 128, 129, 130, 193, 194, 195, 196, 142, 135, 136, 137, 415, 416, 417, 418, 36, 482, 483, 484, 485, 486, 487, 488, 489, 490, 491] (by decide +kernel) (by decide +kernel)
set_option maxRecDepth 20000 in
theorem gL_law_X1_concurrent : GoodIn wsL_law (wsV RL 154 RX1 yX1_concurrent wsX1_concurrent) := goodIn_app (goodIn_of _ (by decide +kernel)) ggL_law_X1_concurrent
set_option maxRecDepth 20000 in
theorem ggL_law_L_critical : GoodIn wsL_law wsL_critical := goodIn_ca (goodIn_r _ [421, 43, 422, 423, 424, 2, 425, 21, 52, 53, 54, 55, 56, 57, 426, 427, 428, 429, 13, 66, 67, 68, 69, 70, 71, 72, 407, 408, 409, 410, 20, 216, 217, 218, 219, 19, 468, 469, 470, 471, 472, 473, 474, 475, 476, 477, 478, 479, 480, 481] (by decide +kernel) (by decide +kernel)) (goodIn_sub (fun _ h => List.mem_append_left _ (List.mem_append_right _ h)) (by decide +kernel))
set_option maxRecDepth 20000 in
theorem gL_law_L_critical : GoodIn wsL_law (va_wsS RL 155 yL_critical wsL_critical) := goodIn_app (goodIn_of _ (by decide +kernel)) ggL_law_L_critical
set_option maxRecDepth 20000 in
theorem ggL_law_X1_critical : GoodIn wsL_law wsX1_critical := goodIn_r _ [433, 125, 126, 5, 127, 128, 129, 130, 193, 194, 195, 196, 142, 434, 435, 436, 437, 120, 37, 135, 136, 137, 415, 416, 417, 418, 36, 482, 483, 484, 485, 486, 487, 488, 489, 490, 491] (by decide +kernel) (by decide +kernel)
set_option maxRecDepth 20000 in
theorem gL_law_X1_critical : GoodIn wsL_law (wsV RL 157 RX1 yX1_critical wsX1_critical) := goodIn_app (goodIn_of _ (by decide +kernel)) ggL_law_X1_critical
set_option maxRecDepth 20000 in
theorem ggL_law_L_toReplay : GoodIn wsL_law wsL_toReplay := goodIn_ca (goodIn_r _ [440, 43, 441, 442, 443, 2, 444, 21, 13, 66, 52, 53, 54, 55, 56, 57, 426, 427, 428, 429, 67, 68, 69, 70, 71, 72, 407, 408, 409, 410, 20, 216, 217, 218, 219, 19, 182, 183, 184, 185, 186, 187, 188, 468, 469, 470, 471, 472, 473, 474, 475, 476, 477, 478, 479, 480, 481] (by decide +kernel) (by decide +kernel)) (goodIn_sub (fun _ h => List.mem_append_left _ (List.mem_append_right _ h)) (by decide +kernel))
set_option maxRecDepth 20000 in
theorem gL_law_L_toReplay : GoodIn wsL_law (va_wsS RL 158 yL_toReplay wsL_toReplay) := goodIn_app (goodIn_of _ (by decide +kernel)) ggL_law_L_toReplay
set_option maxRecDepth 20000 in
theorem ggL_law_X1_toReplay : GoodIn wsL_law wsX1_toReplay := goodIn_r _ [448, 120, 37, 151, 125, 126, 5, 127, 128, 129, 130, 193, 194, 195, 196, 142, 434, 435, 436, 437, 135, 136, 137, 415, 416, 417, 418, 36, 228, 229, 230, 231, 201, 202, 203, 204, 482, 483, 484, 485, 486, 487, 488, 489, 490, 491] (by decide +kernel) (by decide +kernel)
set_option maxRecDepth 20000 in
theorem gL_law_X1_toReplay : GoodIn wsL_law (wsV RL 160 RX1 yX1_toReplay wsX1_toReplay) := goodIn_app (goodIn_of _ (by decide +kernel)) ggL_law_X1_toReplay
set_option maxRecDepth 20000 in
theorem ggL_law_L_runs : GoodIn wsL_law wsL_runs := goodIn_ca (goodIn_r _ [451, 43, 452, 453, 454, 2, 455, 21, 13, 52, 53, 54, 55, 56, 57, 67, 68, 69, 70, 71, 72, 456, 457, 458, 459, 17, 18, 15, 73, 74, 75, 76, 16, 81, 82, 83, 84, 468, 469, 470, 471, 472, 473, 474, 475, 476, 477, 478, 479, 480, 481] (by decide +kernel) (by decide +kernel)) (goodIn_sub (fun _ h => List.mem_append_left _ (List.mem_append_right _ h)) (by decide +kernel))
set_option maxRecDepth 20000 in
theorem gL_law_L_runs : GoodIn wsL_law (va_wsS RL 161 yL_runs wsL_runs) := goodIn_app (goodIn_of _ (by decide +kernel)) ggL_law_L_runs
set_option maxRecDepth 20000 in
theorem ggL_law_X1_runs : GoodIn wsL_law wsX1_runs := goodIn_r _ [463, 120, 37, 125, 126, 5, 127, 128, 129, 130, 193, 194, 195, 196, 142, 135, 136, 137, 464, 465, 466, 467, 34, 33, 35, 32, 482, 483, 484, 485, 486, 487, 488, 489, 490, 491] (by decide +kernel) (by decide +kernel)
set_option maxRecDepth 20000 in
theorem gL_law_X1_runs : GoodIn wsL_law (wsV RL 163 RX1 yX1_runs wsX1_runs) := goodIn_app (goodIn_of _ (by decide +kernel)) ggL_law_X1_runs
