set_option maxRecDepth 20000 in
theorem ggL_define_X7_define : GoodIn wsL_define wsX7_define := goodIn_ca (goodIn_ca (goodIn_ca (goodIn_r _ [8, 9, 10, 11, 12, 13, 14, 7, 15, 16, 17, 18, 19, 20, 21, 22, 23, 24, 25, 26, 27, 28, 29, 30, 31, 32, 33, 34, 35, 36, 37, 38, 39, 40, 41, 42, 43, 44, 45, 46, 47, 48, 49, 50, 51, 52, 53, 54, 55, 56, 57, 58, 59, 60, 61, 62, 63, 64, 65, 66, 67, 68, 69, 70, 71, 72, 73, 74, 75, 76, 77, 78, 79, 80, 81, 82, 83, 84, 85, 86, 87, 88, 89, 90, 91, 92, 93, 94, 95, 96, 97, 98, 99, 100, 101, 102, 103, 104, 105, 106, 107, 108, 109, 110, 111, 112, 113, 114, 115, 116, 117, 118, 119, 120, 121, 122, 123, 124, 125, 126, 127, 128, 129, 130, 131, 132, 133, 134, 135, 136, 137, 138, 139, 140, 141, 142, 143, 144, 145] (by decide +kernel) (by decide +kernel)) (goodIn_sub (fun _ h => List.mem_cons_of_mem _ (List.mem_append_left _ (List.mem_append_left _ (List.mem_append_right _ h)))) (by decide +kernel))) (goodIn_sub (fun _ h => List.mem_cons_of_mem _ (List.mem_append_left _ (List.mem_append_right _ h))) (by decide +kernel))) (goodIn_sub (fun _ h => List.mem_cons_of_mem _ (List.mem_append_right _ h)) (by decide +kernel))
set_option maxRecDepth 20000 in
theorem gL_define_X7_define : GoodIn wsL_define (wsV RL 7 RX7 yX7_define wsX7_define) := goodIn_app (goodIn_of _ (by decide +kernel)) ggL_define_X7_define
theorem dL_define_0 : decode cL_define 0 = .ok (.aload_n 0, 1) := by decide +kernel
theorem dL_define_1 : decode cL_define 1 = .ok (.iload_n 1, 1) := by decide +kernel
theorem dL_define_2 : decode cL_define 2 = .ok (.iload_n 2, 1) := by decide +kernel
theorem dL_define_3 : decode cL_define 3 = .ok (.iload_n 3, 1) := by decide +kernel
theorem dL_define_4 : decode cL_define 4 = .ok (.iload 4, 2) := by decide +kernel
theorem dL_define_6 : decode cL_define 6 = .ok (.invokevirtual 7, 3) := by decide +kernel
theorem dL_define_9 : decode cL_define 9 = .ok (.iconst 0, 1) := by decide +kernel
theorem dL_define_10 : decode cL_define 10 = .ok (.ireturn, 1) := by decide +kernel
theorem dL_define_11 : decode cL_define 11 = .ok (.astore 5, 2) := by decide +kernel
theorem dL_define_13 : decode cL_define 13 = .ok (.bipush (-71), 2) := by decide +kernel
theorem dL_define_15 : decode cL_define 15 = .ok (.ireturn, 1) := by decide +kernel
theorem dL_define_16 : decode cL_define 16 = .ok (.astore 5, 2) := by decide +kernel
theorem dL_define_18 : decode cL_define 18 = .ok (.bipush (-72), 2) := by decide +kernel
theorem dL_define_20 : decode cL_define 20 = .ok (.ireturn, 1) := by decide +kernel
theorem dL_define_21 : decode cL_define 21 = .ok (.astore 5, 2) := by decide +kernel
theorem dL_define_23 : decode cL_define 23 = .ok (.bipush (-73), 2) := by decide +kernel
theorem dL_define_25 : decode cL_define 25 = .ok (.ireturn, 1) := by decide +kernel
set_option maxRecDepth 20000 in
theorem ggL_act_X7_answer : GoodIn wsL_act wsX7_answer := goodIn_ca (goodIn_ca (goodIn_r _ [8, 9, 10, 11, 12, 7, 13, 14, 15, 16, 17, 18, 19, 20, 21, 22, 23, 24, 25, 26, 27, 28, 29, 30, 31, 32, 33, 34, 35, 36, 37, 38, 39, 40, 345, 346, 347, 348, 349, 350, 351, 352, 353, 354, 355, 356] (by decide +kernel) (by decide +kernel)) (goodIn_sub (fun _ h => List.mem_cons_of_mem _ (List.mem_append_left _ (List.mem_append_left _ (List.mem_append_right _ h)))) (by decide +kernel))) (goodIn_sub (fun _ h => List.mem_cons_of_mem _ (List.mem_append_left _ (List.mem_append_right _ h))) (by decide +kernel))
set_option maxRecDepth 20000 in
theorem gL_act_X7_answer : GoodIn wsL_act (wsV RL 19 RX7 yX7_answer wsX7_answer) := goodIn_app (goodIn_of _ (by decide +kernel)) ggL_act_X7_answer
set_option maxRecDepth 20000 in
theorem ggL_act_X7_kindOf : GoodIn wsL_act wsX7_kindOf := goodIn_ca (goodIn_r _ [44, 10, 11, 12, 7, 13, 14, 15, 16, 17, 18, 19, 20, 21, 45, 46, 47, 30, 48, 49, 33, 34, 345, 346, 347, 348, 349, 350, 351, 352, 353, 354, 355, 356] (by decide +kernel) (by decide +kernel)) (goodIn_sub (fun _ h => List.mem_cons_of_mem _ (List.mem_append_left _ (List.mem_append_left _ (List.mem_append_right _ h)))) (by decide +kernel))
set_option maxRecDepth 20000 in
theorem gL_act_X7_kindOf : GoodIn wsL_act (wsV RL 23 RX7 yX7_kindOf wsX7_kindOf) := goodIn_app (goodIn_of _ (by decide +kernel)) ggL_act_X7_kindOf
set_option maxRecDepth 20000 in
theorem ggL_act_X7_value : GoodIn wsL_act wsX7_value := goodIn_ca (goodIn_r _ [53, 54, 11, 12, 7, 13, 14, 15, 16, 17, 18, 19, 20, 21, 55, 56, 57, 58, 59, 60, 61, 62, 63, 64, 65, 66, 67, 68, 69, 33, 34, 70, 46, 47, 30, 48, 49, 71, 72, 73, 74, 75, 76, 77, 78, 79, 80, 81, 82, 83, 84, 85, 86, 87, 88, 89, 90, 91, 92, 93, 94, 95, 96, 97, 98, 99, 100, 101, 39, 40, 102, 103, 104, 105, 106, 107, 108, 109, 110, 111, 112, 113, 114, 115, 116, 117, 118, 119, 120, 121, 122, 123, 124, 125, 126, 127, 128, 129, 130, 131, 132, 133, 134, 135, 136, 137, 138, 139, 140, 141, 142, 143, 144, 145, 146, 147, 148, 149, 150, 151, 152, 153, 154, 155, 156, 157, 28, 29, 31, 32, 158, 345, 346, 347, 348, 349, 350, 351, 352, 357, 358, 359, 360, 361, 362, 363, 364, 365, 366, 367, 368, 369, 353, 354, 355, 356, 370, 371, 372, 373, 374, 375, 376] (by decide +kernel) (by decide +kernel)) (goodIn_sub (fun _ h => List.mem_cons_of_mem _ (List.mem_append_left _ (List.mem_append_left _ (List.mem_append_right _ h)))) (by decide +kernel))
set_option maxRecDepth 20000 in
theorem gL_act_X7_value : GoodIn wsL_act (wsV RL 27 RX7 yX7_value wsX7_value) := goodIn_app (goodIn_of _ (by decide +kernel)) ggL_act_X7_value
set_option maxRecDepth 20000 in
theorem ggL_act_X7_boundFor : GoodIn wsL_act wsX7_boundFor := goodIn_ca (goodIn_ca (goodIn_ca (goodIn_r _ [162, 163, 10, 54, 164, 11, 12, 7, 13, 14, 15, 16, 17, 18, 19, 20, 21, 22, 23, 24, 25, 26, 45, 46, 47, 30, 48, 49, 33, 34, 165, 166, 167, 168, 169, 55, 56, 57, 58, 59, 60, 61, 62, 63, 64, 65, 66, 67, 68, 69, 70, 71, 72, 73, 74, 75, 76, 77, 78, 79, 80, 81, 82, 83, 84, 85, 86, 87, 88, 89, 90, 91, 92, 93, 94, 95, 96, 97, 98, 99, 100, 101, 39, 40, 102, 103, 104, 105, 106, 107, 108, 109, 110, 111, 112, 113, 114, 115, 116, 117, 118, 119, 120, 121, 122, 123, 124, 125, 126, 127, 128, 129, 130, 131, 132, 133, 134, 135, 136, 137, 138, 139, 140, 141, 142, 143, 144, 145, 146, 147, 148, 149, 150, 151, 152, 153, 154, 155, 156, 157, 28, 29, 31, 32, 170, 171, 172, 173, 174, 175, 176, 158, 345, 346, 347, 348, 349, 350, 351, 352, 353, 354, 355, 356, 357, 358, 359, 360, 361, 362, 363, 364, 365, 366, 367, 368, 369, 370, 371, 372, 373, 374, 375, 376] (by decide +kernel) (by decide +kernel)) (goodIn_sub (fun _ h => List.mem_cons_of_mem _ (List.mem_append_left _ (List.mem_append_left _ (List.mem_append_right _ h)))) (by decide +kernel))) (goodIn_sub (fun _ h => List.mem_cons_of_mem _ (List.mem_append_left _ (List.mem_append_right _ h))) (by decide +kernel))) (goodIn_sub (fun _ h => List.mem_cons_of_mem _ (List.mem_append_right _ h)) (by decide +kernel))
set_option maxRecDepth 20000 in
theorem gL_act_X7_boundFor : GoodIn wsL_act (wsV RL 30 RX7 yX7_boundFor wsX7_boundFor) := goodIn_app (goodIn_of _ (by decide +kernel)) ggL_act_X7_boundFor
set_option maxRecDepth 20000 in
theorem ggL_act_X7_dependsOn : GoodIn wsL_act wsX7_dependsOn := goodIn_ca (goodIn_r _ [180, 164, 11, 12, 7, 13, 14, 15, 16, 17, 18, 19, 20, 21, 181, 76, 77, 67, 78, 79, 33, 34, 182, 80, 81, 82, 83, 84, 345, 346, 347, 348, 349, 350, 351, 352, 363, 364, 365, 366, 367, 368, 369] (by decide +kernel) (by decide +kernel)) (goodIn_sub (fun _ h => List.mem_cons_of_mem _ (List.mem_append_left _ (List.mem_append_left _ (List.mem_append_right _ h)))) (by decide +kernel))
set_option maxRecDepth 20000 in
theorem gL_act_X7_dependsOn : GoodIn wsL_act (wsV RL 33 RX7 yX7_dependsOn wsX7_dependsOn) := goodIn_app (goodIn_of _ (by decide +kernel)) ggL_act_X7_dependsOn
set_option maxRecDepth 20000 in
theorem ggL_act_X7_influence : GoodIn wsL_act wsX7_influence := goodIn_ca (goodIn_r _ [186, 10, 54, 187, 11, 12, 7, 13, 14, 15, 16, 17, 18, 19, 20, 21, 45, 46, 47, 30, 48, 49, 33, 34, 55, 56, 57, 58, 59, 60, 61, 62, 63, 64, 65, 66, 67, 68, 69, 70, 71, 72, 73, 74, 75, 76, 77, 78, 79, 80, 81, 82, 83, 84, 85, 86, 87, 88, 89, 90, 91, 92, 93, 94, 95, 96, 97, 98, 99, 100, 101, 39, 40, 102, 103, 104, 105, 106, 107, 108, 109, 110, 111, 112, 113, 114, 115, 116, 117, 118, 119, 120, 121, 122, 123, 124, 125, 126, 127, 128, 129, 130, 131, 132, 133, 134, 135, 136, 137, 138, 139, 140, 141, 142, 143, 144, 145, 146, 147, 148, 149, 150, 151, 152, 153, 154, 155, 156, 157, 28, 29, 31, 32, 158, 345, 346, 347, 348, 349, 350, 351, 352, 353, 354, 355, 356, 357, 358, 359, 360, 361, 362, 363, 364, 365, 366, 367, 368, 369, 370, 371, 372, 373, 374, 375, 376] (by decide +kernel) (by decide +kernel)) (goodIn_sub (fun _ h => List.mem_cons_of_mem _ (List.mem_append_left _ (List.mem_append_left _ (List.mem_append_right _ h)))) (by decide +kernel))
set_option maxRecDepth 20000 in
theorem gL_act_X7_influence : GoodIn wsL_act (wsV RL 37 RX7 yX7_influence wsX7_influence) := goodIn_app (goodIn_of _ (by decide +kernel)) ggL_act_X7_influence
set_option maxRecDepth 20000 in
theorem ggL_act_X7_why : GoodIn wsL_act wsX7_why := goodIn_ca (goodIn_r _ [191, 54, 192, 10, 11, 12, 7, 13, 14, 15, 16, 17, 18, 19, 20, 21, 55, 56, 57, 58, 59, 60, 61, 62, 63, 64, 65, 66, 67, 68, 69, 33, 34, 70, 46, 47, 30, 48, 49, 71, 72, 73, 74, 75, 76, 77, 78, 79, 80, 81, 82, 83, 84, 85, 86, 87, 88, 89, 90, 91, 92, 93, 94, 95, 96, 97, 98, 99, 100, 101, 39, 40, 102, 103, 104, 105, 106, 107, 108, 109, 110, 111, 112, 113, 114, 115, 116, 117, 118, 119, 120, 121, 122, 123, 124, 125, 126, 127, 128, 129, 130, 131, 132, 133, 134, 135, 136, 137, 138, 139, 140, 141, 142, 143, 144, 145, 146, 147, 148, 149, 150, 151, 152, 153, 154, 155, 156, 157, 28, 29, 31, 32, 193, 194, 195, 196, 197, 198, 199, 200, 201, 202, 203, 204, 205, 206, 207, 208, 209, 210, 211, 212, 213, 214, 215, 216, 345, 346, 347, 348, 349, 350, 351, 352, 357, 358, 359, 360, 361, 362, 363, 364, 365, 366, 367, 368, 369, 353, 354, 355, 356, 370, 371, 372, 373, 374, 375, 376, 377, 378, 379] (by decide +kernel) (by decide +kernel)) (goodIn_sub (fun _ h => List.mem_cons_of_mem _ (List.mem_append_left _ (List.mem_append_left _ (List.mem_append_right _ h)))) (by decide +kernel))
set_option maxRecDepth 20000 in
theorem gL_act_X7_why : GoodIn wsL_act (wsV RL 40 RX7 yX7_why wsX7_why) := goodIn_app (goodIn_of _ (by decide +kernel)) ggL_act_X7_why
set_option maxRecDepth 20000 in
theorem ggL_act_X7_bracket : GoodIn wsL_act wsX7_bracket := goodIn_ca (goodIn_ca (goodIn_r _ [220, 9, 221, 14, 15, 7, 16, 22, 23, 24, 25, 26, 222, 223, 224, 139, 225, 141, 226, 227, 228, 229, 142, 33, 34, 230, 231, 232, 233, 165, 166, 167, 168, 169, 234, 235, 236, 237, 145, 39, 40, 238, 239, 240, 241, 345, 346, 347, 348, 349, 350, 351, 352, 370, 371, 372] (by decide +kernel) (by decide +kernel)) (goodIn_sub (fun _ h => List.mem_cons_of_mem _ (List.mem_append_left _ (List.mem_append_right _ h))) (by decide +kernel))) (goodIn_sub (fun _ h => List.mem_cons_of_mem _ (List.mem_append_right _ h)) (by decide +kernel))
set_option maxRecDepth 20000 in
theorem gL_act_X7_bracket : GoodIn wsL_act (wsV RL 43 RX7 yX7_bracket wsX7_bracket) := goodIn_app (goodIn_of _ (by decide +kernel)) ggL_act_X7_bracket
set_option maxRecDepth 20000 in
theorem ggL_act_X7_taxOn : GoodIn wsL_act wsX7_taxOn := goodIn_ca (goodIn_r _ [245, 163, 221, 14, 15, 7, 16, 22, 23, 24, 25, 26, 246, 137, 138, 139, 140, 141, 142, 143, 120, 121, 122, 144, 124, 125, 145, 33, 34, 133, 134, 135, 345, 346, 347, 348, 349, 350, 351, 352, 370, 371, 372] (by decide +kernel) (by decide +kernel)) (goodIn_sub (fun _ h => List.mem_cons_of_mem _ (List.mem_append_left _ (List.mem_append_right _ h))) (by decide +kernel))
set_option maxRecDepth 20000 in
theorem gL_act_X7_taxOn : GoodIn wsL_act (wsV RL 46 RX7 yX7_taxOn wsX7_taxOn) := goodIn_app (goodIn_of _ (by decide +kernel)) ggL_act_X7_taxOn
set_option maxRecDepth 20000 in
theorem ggL_act_X7_carry : GoodIn wsL_act wsX7_carry := goodIn_ca (goodIn_ca (goodIn_r _ [250, 251, 9, 252, 253, 254, 149, 255, 256, 14, 15, 7, 16, 22, 23, 24, 25, 26, 257, 258, 259, 260, 151, 165, 166, 167, 168, 169, 261, 262, 263, 264, 265, 156, 33, 34, 266, 267, 268, 269, 39, 40, 270, 147, 148, 150, 152, 153, 154, 155, 345, 346, 347, 348, 349, 350, 351, 352, 373, 374, 375, 376] (by decide +kernel) (by decide +kernel)) (goodIn_sub (fun _ h => List.mem_cons_of_mem _ (List.mem_append_left _ (List.mem_append_right _ h))) (by decide +kernel))) (goodIn_sub (fun _ h => List.mem_cons_of_mem _ (List.mem_append_right _ h)) (by decide +kernel))
set_option maxRecDepth 20000 in
theorem gL_act_X7_carry : GoodIn wsL_act (wsV RL 49 RX7 yX7_carry wsX7_carry) := goodIn_app (goodIn_of _ (by decide +kernel)) ggL_act_X7_carry
set_option maxRecDepth 20000 in
theorem ggL_act_X7_carriedAt : GoodIn wsL_act wsX7_carriedAt := goodIn_ca (goodIn_r _ [274, 251, 257, 258, 259, 149, 260, 151, 17, 18, 7, 19, 20, 21, 275, 153, 154, 155, 156, 33, 34, 345, 346, 347, 348, 349, 350, 351, 352, 373, 374, 375, 376] (by decide +kernel) (by decide +kernel)) (goodIn_sub (fun _ h => List.mem_cons_of_mem _ (List.mem_append_left _ (List.mem_append_left _ (List.mem_append_right _ h)))) (by decide +kernel))
set_option maxRecDepth 20000 in
theorem gL_act_X7_carriedAt : GoodIn wsL_act (wsV RL 52 RX7 yX7_carriedAt wsX7_carriedAt) := goodIn_app (goodIn_of _ (by decide +kernel)) ggL_act_X7_carriedAt
set_option maxRecDepth 20000 in
theorem ggL_act_X7_addCredit : GoodIn wsL_act wsX7_addCredit := goodIn_ca (goodIn_ca (goodIn_r _ [279, 9, 280, 14, 15, 7, 16, 22, 23, 24, 25, 26, 281, 282, 283, 284, 285, 286, 165, 166, 167, 168, 169, 287, 288, 289, 290, 291, 292, 39, 40, 345, 346, 347, 348, 349, 350, 351, 352, 380, 381, 382, 383, 384] (by decide +kernel) (by decide +kernel)) (goodIn_sub (fun _ h => List.mem_cons_of_mem _ (List.mem_append_left _ (List.mem_append_right _ h))) (by decide +kernel))) (goodIn_sub (fun _ h => List.mem_cons_of_mem _ (List.mem_append_right _ h)) (by decide +kernel))
set_option maxRecDepth 20000 in
theorem gL_act_X7_addCredit : GoodIn wsL_act (wsV RL 55 RX7 yX7_addCredit wsX7_addCredit) := goodIn_app (goodIn_of _ (by decide +kernel)) ggL_act_X7_addCredit
set_option maxRecDepth 20000 in
theorem ggL_act_X7_dropCredit : GoodIn wsL_act wsX7_dropCredit := goodIn_ca (goodIn_r _ [296, 280, 281, 282, 283, 284, 285, 286, 165, 166, 7, 167, 168, 169, 297, 298, 299, 300, 345, 346, 347, 348, 349, 350, 351, 352, 380, 381, 382, 383, 384] (by decide +kernel) (by decide +kernel)) (goodIn_sub (fun _ h => List.mem_cons_of_mem _ (List.mem_append_right _ h)) (by decide +kernel))
set_option maxRecDepth 20000 in
theorem gL_act_X7_dropCredit : GoodIn wsL_act (wsV RL 58 RX7 yX7_dropCredit wsX7_dropCredit) := goodIn_app (goodIn_of _ (by decide +kernel)) ggL_act_X7_dropCredit
set_option maxRecDepth 20000 in
theorem ggL_act_X7_creditAt : GoodIn wsL_act wsX7_creditAt := goodIn_ca (goodIn_r _ [304, 280, 54, 11, 12, 7, 13, 14, 15, 16, 17, 18, 19, 20, 21, 281, 282, 283, 284, 285, 286, 55, 56, 57, 58, 59, 60, 61, 62, 63, 64, 65, 66, 67, 68, 69, 33, 34, 70, 46, 47, 30, 48, 49, 71, 72, 73, 74, 75, 76, 77, 78, 79, 80, 81, 82, 83, 84, 85, 86, 87, 88, 89, 90, 91, 92, 93, 94, 95, 96, 97, 98, 99, 100, 101, 39, 40, 102, 103, 104, 105, 106, 107, 108, 109, 110, 111, 112, 113, 114, 115, 116, 117, 118, 119, 120, 121, 122, 123, 124, 125, 126, 127, 128, 129, 130, 131, 132, 133, 134, 135, 136, 137, 138, 139, 140, 141, 142, 143, 144, 145, 146, 147, 148, 149, 150, 151, 152, 153, 154, 155, 156, 157, 28, 29, 31, 32, 158, 305, 306, 307, 308, 309, 310, 311, 312, 313, 291, 314, 292, 315, 316, 317, 318, 319, 320, 321, 322, 323, 324, 325, 326, 327, 328, 329, 330, 331, 345, 346, 347, 348, 349, 350, 351, 352, 380, 381, 382, 383, 384, 357, 358, 359, 360, 361, 362, 363, 364, 365, 366, 367, 368, 369, 353, 354, 355, 356, 370, 371, 372, 373, 374, 375, 376] (by decide +kernel) (by decide +kernel)) (goodIn_sub (fun _ h => List.mem_cons_of_mem _ (List.mem_append_left _ (List.mem_append_left _ (List.mem_append_right _ h)))) (by decide +kernel))
set_option maxRecDepth 20000 in
theorem gL_act_X7_creditAt : GoodIn wsL_act (wsV RL 62 RX7 yX7_creditAt wsX7_creditAt) := goodIn_app (goodIn_of _ (by decide +kernel)) ggL_act_X7_creditAt
set_option maxRecDepth 20000 in
theorem ggL_act_X7_afterCredits : GoodIn wsL_act wsX7_afterCredits := goodIn_ca (goodIn_r _ [335, 54, 280, 336, 120, 121, 122, 11, 12, 7, 13, 14, 15, 16, 17, 18, 19, 20, 21, 55, 56, 57, 58, 59, 60, 61, 62, 63, 64, 65, 66, 67, 68, 69, 33, 34, 70, 46, 47, 30, 48, 49, 71, 72, 73, 74, 75, 76, 77, 78, 79, 80, 81, 82, 83, 84, 85, 86, 87, 88, 89, 90, 91, 92, 93, 94, 95, 96, 97, 98, 99, 100, 101, 39, 40, 102, 103, 104, 105, 106, 107, 108, 109, 110, 111, 112, 113, 114, 115, 116, 117, 118, 119, 123, 124, 125, 126, 127, 128, 129, 130, 131, 132, 133, 134, 135, 136, 137, 138, 139, 140, 141, 142, 143, 144, 145, 146, 147, 148, 149, 150, 151, 152, 153, 154, 155, 156, 157, 28, 29, 31, 32, 158, 337, 338, 339, 284, 340, 286, 291, 345, 346, 347, 348, 349, 350, 351, 352, 357, 358, 359, 360, 361, 362, 363, 364, 365, 366, 367, 368, 369, 353, 354, 355, 356, 370, 371, 372, 373, 374, 375, 376, 380, 381, 382, 383, 384] (by decide +kernel) (by decide +kernel)) (goodIn_sub (fun _ h => List.mem_cons_of_mem _ (List.mem_append_left _ (List.mem_append_left _ (List.mem_append_right _ h)))) (by decide +kernel))
set_option maxRecDepth 20000 in
theorem gL_act_X7_afterCredits : GoodIn wsL_act (wsV RL 65 RX7 yX7_afterCredits wsX7_afterCredits) := goodIn_app (goodIn_of _ (by decide +kernel)) ggL_act_X7_afterCredits
set_option maxRecDepth 20000 in
theorem ggL_act_X7_bestSum : GoodIn wsL_act wsX7_bestSum := goodIn_ca (goodIn_r _ [344, 54, 280, 11, 12, 7, 13, 14, 15, 16, 17, 18, 19, 20, 21, 55, 56, 57, 58, 59, 60, 61, 62, 63, 64, 65, 66, 67, 68, 69, 33, 34, 70, 46, 47, 30, 48, 49, 71, 72, 73, 74, 75, 76, 77, 78, 79, 80, 81, 82, 83, 84, 85, 86, 87, 88, 89, 90, 91, 92, 93, 94, 95, 96, 97, 98, 99, 100, 101, 39, 40, 102, 103, 104, 105, 106, 107, 108, 109, 110, 111, 112, 113, 114, 115, 116, 117, 118, 119, 120, 121, 122, 123, 124, 125, 126, 127, 128, 129, 130, 131, 132, 133, 134, 135, 136, 137, 138, 139, 140, 141, 142, 143, 144, 145, 146, 147, 148, 149, 150, 151, 152, 153, 154, 155, 156, 157, 28, 29, 31, 32, 158, 305, 306, 307, 284, 308, 309, 310, 311, 312, 313, 286, 291, 314, 292, 315, 316, 317, 318, 319, 320, 321, 322, 323, 324, 325, 326, 327, 345, 346, 347, 348, 349, 350, 351, 352, 357, 358, 359, 360, 361, 362, 363, 364, 365, 366, 367, 368, 369, 353, 354, 355, 356, 370, 371, 372, 373, 374, 375, 376, 380, 381, 382, 383, 384] (by decide +kernel) (by decide +kernel)) (goodIn_sub (fun _ h => List.mem_cons_of_mem _ (List.mem_append_left _ (List.mem_append_left _ (List.mem_append_right _ h)))) (by decide +kernel))
set_option maxRecDepth 20000 in
theorem gL_act_X7_bestSum : GoodIn wsL_act (wsV RL 68 RX7 yX7_bestSum wsX7_bestSum) := goodIn_app (goodIn_of _ (by decide +kernel)) ggL_act_X7_bestSum
theorem dL_act_0 : decode cL_act 0 = .ok (.iload_n 1, 1) := by decide +kernel
theorem dL_act_1 : decode cL_act 1 = .ok (.ifCond .ne 12, 3) := by decide +kernel
theorem dL_act_4 : decode cL_act 4 = .ok (.aload_n 0, 1) := by decide +kernel
theorem dL_act_5 : decode cL_act 5 = .ok (.iload_n 2, 1) := by decide +kernel
theorem dL_act_6 : decode cL_act 6 = .ok (.iload_n 3, 1) := by decide +kernel
theorem dL_act_7 : decode cL_act 7 = .ok (.invokevirtual 19, 3) := by decide +kernel
theorem dL_act_10 : decode cL_act 10 = .ok (.goto 213, 3) := by decide +kernel
theorem dL_act_13 : decode cL_act 13 = .ok (.iload_n 1, 1) := by decide +kernel
theorem dL_act_14 : decode cL_act 14 = .ok (.iconst 1, 1) := by decide +kernel
theorem dL_act_15 : decode cL_act 15 = .ok (.if_icmp .ne 11, 3) := by decide +kernel
theorem dL_act_18 : decode cL_act 18 = .ok (.aload_n 0, 1) := by decide +kernel
theorem dL_act_19 : decode cL_act 19 = .ok (.iload_n 2, 1) := by decide +kernel
theorem dL_act_20 : decode cL_act 20 = .ok (.invokevirtual 23, 3) := by decide +kernel
theorem dL_act_23 : decode cL_act 23 = .ok (.goto 200, 3) := by decide +kernel
theorem dL_act_26 : decode cL_act 26 = .ok (.iload_n 1, 1) := by decide +kernel
theorem dL_act_27 : decode cL_act 27 = .ok (.iconst 2, 1) := by decide +kernel
theorem dL_act_28 : decode cL_act 28 = .ok (.if_icmp .ne 11, 3) := by decide +kernel
theorem dL_act_31 : decode cL_act 31 = .ok (.aload_n 0, 1) := by decide +kernel
theorem dL_act_32 : decode cL_act 32 = .ok (.iload_n 2, 1) := by decide +kernel
theorem dL_act_33 : decode cL_act 33 = .ok (.invokevirtual 27, 3) := by decide +kernel
theorem dL_act_36 : decode cL_act 36 = .ok (.goto 187, 3) := by decide +kernel
theorem dL_act_39 : decode cL_act 39 = .ok (.iload_n 1, 1) := by decide +kernel
theorem dL_act_40 : decode cL_act 40 = .ok (.iconst 3, 1) := by decide +kernel
theorem dL_act_41 : decode cL_act 41 = .ok (.if_icmp .ne 12, 3) := by decide +kernel
theorem dL_act_44 : decode cL_act 44 = .ok (.aload_n 0, 1) := by decide +kernel
theorem dL_act_45 : decode cL_act 45 = .ok (.iload_n 2, 1) := by decide +kernel
theorem dL_act_46 : decode cL_act 46 = .ok (.iload_n 3, 1) := by decide +kernel
theorem dL_act_47 : decode cL_act 47 = .ok (.invokevirtual 30, 3) := by decide +kernel
theorem dL_act_50 : decode cL_act 50 = .ok (.goto 173, 3) := by decide +kernel
theorem dL_act_53 : decode cL_act 53 = .ok (.iload_n 1, 1) := by decide +kernel
theorem dL_act_54 : decode cL_act 54 = .ok (.iconst 4, 1) := by decide +kernel
theorem dL_act_55 : decode cL_act 55 = .ok (.if_icmp .ne 20, 3) := by decide +kernel
theorem dL_act_58 : decode cL_act 58 = .ok (.aload_n 0, 1) := by decide +kernel
theorem dL_act_59 : decode cL_act 59 = .ok (.iload_n 2, 1) := by decide +kernel
theorem dL_act_60 : decode cL_act 60 = .ok (.iload_n 3, 1) := by decide +kernel
theorem dL_act_61 : decode cL_act 61 = .ok (.invokevirtual 33, 3) := by decide +kernel
theorem dL_act_64 : decode cL_act 64 = .ok (.ifCond .eq 7, 3) := by decide +kernel
theorem dL_act_67 : decode cL_act 67 = .ok (.iconst 1, 1) := by decide +kernel
theorem dL_act_68 : decode cL_act 68 = .ok (.goto 155, 3) := by decide +kernel
theorem dL_act_71 : decode cL_act 71 = .ok (.iconst 0, 1) := by decide +kernel
theorem dL_act_72 : decode cL_act 72 = .ok (.goto 151, 3) := by decide +kernel
theorem dL_act_75 : decode cL_act 75 = .ok (.iload_n 1, 1) := by decide +kernel
theorem dL_act_76 : decode cL_act 76 = .ok (.iconst 5, 1) := by decide +kernel
theorem dL_act_77 : decode cL_act 77 = .ok (.if_icmp .ne 11, 3) := by decide +kernel
theorem dL_act_80 : decode cL_act 80 = .ok (.aload_n 0, 1) := by decide +kernel
theorem dL_act_81 : decode cL_act 81 = .ok (.iload_n 2, 1) := by decide +kernel
theorem dL_act_82 : decode cL_act 82 = .ok (.invokevirtual 37, 3) := by decide +kernel
theorem dL_act_85 : decode cL_act 85 = .ok (.goto 138, 3) := by decide +kernel
theorem dL_act_88 : decode cL_act 88 = .ok (.iload_n 1, 1) := by decide +kernel
theorem dL_act_89 : decode cL_act 89 = .ok (.bipush 6, 2) := by decide +kernel
theorem dL_act_91 : decode cL_act 91 = .ok (.if_icmp .ne 12, 3) := by decide +kernel
theorem dL_act_94 : decode cL_act 94 = .ok (.aload_n 0, 1) := by decide +kernel
theorem dL_act_95 : decode cL_act 95 = .ok (.iload_n 2, 1) := by decide +kernel
theorem dL_act_96 : decode cL_act 96 = .ok (.iload_n 3, 1) := by decide +kernel
theorem dL_act_97 : decode cL_act 97 = .ok (.invokevirtual 40, 3) := by decide +kernel
theorem dL_act_100 : decode cL_act 100 = .ok (.goto 123, 3) := by decide +kernel
theorem dL_act_103 : decode cL_act 103 = .ok (.iload_n 1, 1) := by decide +kernel
theorem dL_act_104 : decode cL_act 104 = .ok (.bipush 7, 2) := by decide +kernel
theorem dL_act_106 : decode cL_act 106 = .ok (.if_icmp .ne 12, 3) := by decide +kernel
theorem dL_act_109 : decode cL_act 109 = .ok (.aload_n 0, 1) := by decide +kernel
theorem dL_act_110 : decode cL_act 110 = .ok (.iload_n 2, 1) := by decide +kernel
theorem dL_act_111 : decode cL_act 111 = .ok (.iload_n 3, 1) := by decide +kernel
theorem dL_act_112 : decode cL_act 112 = .ok (.invokevirtual 43, 3) := by decide +kernel
theorem dL_act_115 : decode cL_act 115 = .ok (.goto 108, 3) := by decide +kernel
theorem dL_act_118 : decode cL_act 118 = .ok (.iload_n 1, 1) := by decide +kernel
theorem dL_act_119 : decode cL_act 119 = .ok (.bipush 8, 2) := by decide +kernel
theorem dL_act_121 : decode cL_act 121 = .ok (.if_icmp .ne 11, 3) := by decide +kernel
theorem dL_act_124 : decode cL_act 124 = .ok (.aload_n 0, 1) := by decide +kernel
theorem dL_act_125 : decode cL_act 125 = .ok (.iload_n 2, 1) := by decide +kernel
theorem dL_act_126 : decode cL_act 126 = .ok (.invokevirtual 46, 3) := by decide +kernel
theorem dL_act_129 : decode cL_act 129 = .ok (.goto 94, 3) := by decide +kernel
theorem dL_act_132 : decode cL_act 132 = .ok (.iload_n 1, 1) := by decide +kernel
theorem dL_act_133 : decode cL_act 133 = .ok (.bipush 9, 2) := by decide +kernel
theorem dL_act_135 : decode cL_act 135 = .ok (.if_icmp .ne 12, 3) := by decide +kernel
theorem dL_act_138 : decode cL_act 138 = .ok (.aload_n 0, 1) := by decide +kernel
theorem dL_act_139 : decode cL_act 139 = .ok (.iload_n 2, 1) := by decide +kernel
theorem dL_act_140 : decode cL_act 140 = .ok (.iload_n 3, 1) := by decide +kernel
theorem dL_act_141 : decode cL_act 141 = .ok (.invokevirtual 49, 3) := by decide +kernel
theorem dL_act_144 : decode cL_act 144 = .ok (.goto 79, 3) := by decide +kernel
theorem dL_act_147 : decode cL_act 147 = .ok (.iload_n 1, 1) := by decide +kernel
theorem dL_act_148 : decode cL_act 148 = .ok (.bipush 10, 2) := by decide +kernel
theorem dL_act_150 : decode cL_act 150 = .ok (.if_icmp .ne 11, 3) := by decide +kernel
theorem dL_act_153 : decode cL_act 153 = .ok (.aload_n 0, 1) := by decide +kernel
theorem dL_act_154 : decode cL_act 154 = .ok (.iload_n 2, 1) := by decide +kernel
theorem dL_act_155 : decode cL_act 155 = .ok (.invokevirtual 52, 3) := by decide +kernel
theorem dL_act_158 : decode cL_act 158 = .ok (.goto 65, 3) := by decide +kernel
theorem dL_act_161 : decode cL_act 161 = .ok (.iload_n 1, 1) := by decide +kernel
theorem dL_act_162 : decode cL_act 162 = .ok (.bipush 11, 2) := by decide +kernel
theorem dL_act_164 : decode cL_act 164 = .ok (.if_icmp .ne 12, 3) := by decide +kernel
theorem dL_act_167 : decode cL_act 167 = .ok (.aload_n 0, 1) := by decide +kernel
theorem dL_act_168 : decode cL_act 168 = .ok (.iload_n 2, 1) := by decide +kernel
theorem dL_act_169 : decode cL_act 169 = .ok (.iload_n 3, 1) := by decide +kernel
theorem dL_act_170 : decode cL_act 170 = .ok (.invokevirtual 55, 3) := by decide +kernel
theorem dL_act_173 : decode cL_act 173 = .ok (.goto 50, 3) := by decide +kernel
theorem dL_act_176 : decode cL_act 176 = .ok (.iload_n 1, 1) := by decide +kernel
theorem dL_act_177 : decode cL_act 177 = .ok (.bipush 12, 2) := by decide +kernel
theorem dL_act_179 : decode cL_act 179 = .ok (.if_icmp .ne 10, 3) := by decide +kernel
theorem dL_act_182 : decode cL_act 182 = .ok (.aload_n 0, 1) := by decide +kernel
theorem dL_act_183 : decode cL_act 183 = .ok (.invokevirtual 58, 3) := by decide +kernel
theorem dL_act_186 : decode cL_act 186 = .ok (.goto 37, 3) := by decide +kernel
theorem dL_act_189 : decode cL_act 189 = .ok (.iload_n 1, 1) := by decide +kernel
theorem dL_act_190 : decode cL_act 190 = .ok (.bipush 13, 2) := by decide +kernel
theorem dL_act_192 : decode cL_act 192 = .ok (.if_icmp .ne 12, 3) := by decide +kernel
theorem dL_act_195 : decode cL_act 195 = .ok (.aload_n 0, 1) := by decide +kernel
theorem dL_act_196 : decode cL_act 196 = .ok (.iload_n 2, 1) := by decide +kernel
theorem dL_act_197 : decode cL_act 197 = .ok (.iload_n 3, 1) := by decide +kernel
theorem dL_act_198 : decode cL_act 198 = .ok (.invokevirtual 62, 3) := by decide +kernel
theorem dL_act_201 : decode cL_act 201 = .ok (.goto 22, 3) := by decide +kernel
theorem dL_act_204 : decode cL_act 204 = .ok (.iload_n 1, 1) := by decide +kernel
theorem dL_act_205 : decode cL_act 205 = .ok (.bipush 14, 2) := by decide +kernel
theorem dL_act_207 : decode cL_act 207 = .ok (.if_icmp .ne 11, 3) := by decide +kernel
theorem dL_act_210 : decode cL_act 210 = .ok (.aload_n 0, 1) := by decide +kernel
theorem dL_act_211 : decode cL_act 211 = .ok (.iload_n 2, 1) := by decide +kernel
theorem dL_act_212 : decode cL_act 212 = .ok (.invokevirtual 65, 3) := by decide +kernel
theorem dL_act_215 : decode cL_act 215 = .ok (.goto 8, 3) := by decide +kernel
theorem dL_act_218 : decode cL_act 218 = .ok (.aload_n 0, 1) := by decide +kernel
theorem dL_act_219 : decode cL_act 219 = .ok (.iload_n 2, 1) := by decide +kernel
theorem dL_act_220 : decode cL_act 220 = .ok (.invokevirtual 68, 3) := by decide +kernel
theorem dL_act_223 : decode cL_act 223 = .ok (.ireturn, 1) := by decide +kernel
theorem dL_act_224 : decode cL_act 224 = .ok (.astore 4, 2) := by decide +kernel
theorem dL_act_226 : decode cL_act 226 = .ok (.bipush (-71), 2) := by decide +kernel
theorem dL_act_228 : decode cL_act 228 = .ok (.ireturn, 1) := by decide +kernel
theorem dL_act_229 : decode cL_act 229 = .ok (.astore 4, 2) := by decide +kernel
theorem dL_act_231 : decode cL_act 231 = .ok (.bipush (-72), 2) := by decide +kernel
theorem dL_act_233 : decode cL_act 233 = .ok (.ireturn, 1) := by decide +kernel
theorem dL_act_234 : decode cL_act 234 = .ok (.astore 4, 2) := by decide +kernel
theorem dL_act_236 : decode cL_act 236 = .ok (.bipush (-73), 2) := by decide +kernel
theorem dL_act_238 : decode cL_act 238 = .ok (.ireturn, 1) := by decide +kernel
set_option maxRecDepth 20000 in
theorem ggL_refuses_X7_year : GoodIn wsL_refuses wsX7_year := goodIn_r _ [8, 9, 10, 11, 12, 13, 14, 15, 427, 428, 429, 430, 431, 432, 433, 434, 435, 436, 437, 438] (by decide +kernel) (by decide +kernel)
set_option maxRecDepth 20000 in
theorem gL_refuses_X7_year : GoodIn wsL_refuses (wsV RL 71 RX7 yX7_year wsX7_year) := goodIn_app (goodIn_of _ (by decide +kernel)) ggL_refuses_X7_year
set_option maxRecDepth 20000 in
theorem ggL_refuses_X7_carried : GoodIn wsL_refuses wsX7_carried := goodIn_r _ [19, 9, 20, 21, 22, 13, 23, 24, 25, 26, 27, 28, 29, 30, 7, 31, 427, 428, 429, 430, 431, 432, 433, 434, 435, 436, 437, 438] (by decide +kernel) (by decide +kernel)
set_option maxRecDepth 20000 in
theorem gL_refuses_X7_carried : GoodIn wsL_refuses (wsV RL 74 RX7 yX7_carried wsX7_carried) := goodIn_app (goodIn_of _ (by decide +kernel)) ggL_refuses_X7_carried
set_option maxRecDepth 20000 in
theorem ggL_refuses_X7_value : GoodIn wsL_refuses wsX7_value := goodIn_ca (goodIn_r _ [35, 36, 37, 38, 7, 39, 40, 41, 42, 43, 44, 45, 46, 47, 48, 49, 50, 51, 52, 53, 54, 55, 56, 57, 58, 59, 60, 61, 62, 30, 31, 63, 64, 65, 66, 67, 68, 69, 70, 71, 72, 73, 74, 75, 76, 77, 78, 79, 80, 81, 82, 83, 84, 85, 86, 87, 88, 89, 90, 91, 92, 93, 94, 95, 96, 97, 98, 99, 100, 101, 102, 103, 104, 105, 106, 107, 108, 109, 110, 111, 112, 113, 114, 115, 116, 117, 118, 119, 120, 121, 122, 123, 124, 125, 126, 127, 128, 129, 130, 131, 132, 133, 134, 135, 136, 137, 138, 139, 140, 141, 142, 143, 144, 145, 146, 21, 22, 13, 23, 24, 25, 26, 27, 28, 29, 147, 148, 149, 150, 151, 152, 427, 428, 429, 430, 431, 432, 433, 434, 439, 440, 441, 442, 443, 444, 445, 446, 447, 448, 449, 450, 451, 452, 453, 454, 455, 456, 457, 458, 435, 436, 437, 438] (by decide +kernel) (by decide +kernel)) (goodIn_sub (fun _ h => List.mem_cons_of_mem _ (List.mem_append_left _ (List.mem_append_left _ (List.mem_append_right _ h)))) (by decide +kernel))
set_option maxRecDepth 20000 in
theorem gL_refuses_X7_value : GoodIn wsL_refuses (wsV RL 27 RX7 yX7_value wsX7_value) := goodIn_app (goodIn_of _ (by decide +kernel)) ggL_refuses_X7_value
set_option maxRecDepth 20000 in
theorem ggL_refuses_L_define : GoodIn wsL_refuses wsL_define := goodIn_ca (goodIn_ca (goodIn_ca (goodIn_r _ [156, 157, 158, 159, 160, 161, 162, 7, 163, 164, 165, 166, 167, 37, 38, 39, 40, 41, 42, 43, 44, 45, 46, 47, 168, 169, 170, 171, 172, 173, 174, 175, 176, 177, 178, 179, 64, 65, 66, 67, 68, 30, 31, 180, 88, 89, 90, 91, 181, 129, 130, 131, 132, 182, 183, 184, 185, 100, 101, 186, 187, 188, 60, 189, 190, 191, 192, 193, 194, 195, 196, 77, 197, 198, 199, 200, 201, 202, 81, 82, 203, 73, 74, 75, 76, 78, 79, 80, 204, 205, 206, 207, 106, 208, 209, 210, 211, 212, 103, 104, 105, 213, 70, 71, 72, 214, 215, 216, 217, 62, 218, 219, 220, 221, 222, 223, 224, 225, 226, 227, 228, 229, 230, 231, 232, 233, 234, 427, 428, 429, 430, 431, 432, 433, 434, 452, 453, 454, 455, 445, 446, 447, 448, 449, 450, 451] (by decide +kernel) (by decide +kernel)) (goodIn_sub (fun _ h => List.mem_cons_of_mem _ (List.mem_append_left _ (List.mem_append_right _ h))) (by decide +kernel))) (goodIn_sub (fun _ h => List.mem_cons_of_mem _ (List.mem_append_left _ (List.mem_append_left _ (List.mem_append_right _ h)))) (by decide +kernel))) (goodIn_sub (fun _ h => List.mem_cons_of_mem _ (List.mem_append_right _ h)) (by decide +kernel))
set_option maxRecDepth 20000 in
theorem gL_refuses_L_define : GoodIn wsL_refuses (va_wsS RL 80 yL_define wsL_define) := goodIn_app (goodIn_of _ (by decide +kernel)) ggL_refuses_L_define
set_option maxRecDepth 20000 in
theorem ggL_refuses_L_act : GoodIn wsL_refuses wsL_act := goodIn_ca (goodIn_ca (goodIn_ca (goodIn_r _ [237, 157, 158, 159, 238, 239, 240, 7, 241, 242, 166, 37, 38, 39, 40, 41, 42, 43, 44, 45, 46, 47, 174, 175, 176, 177, 178, 243, 148, 149, 66, 150, 151, 30, 31, 244, 245, 246, 247, 100, 101, 248, 249, 250, 251, 179, 64, 65, 67, 68, 32, 33, 34, 35, 36, 48, 49, 50, 51, 52, 53, 54, 55, 56, 57, 58, 59, 60, 61, 62, 63, 69, 70, 71, 72, 73, 74, 75, 76, 77, 78, 79, 80, 81, 82, 83, 84, 85, 86, 87, 88, 89, 90, 91, 92, 93, 94, 95, 96, 97, 98, 99, 102, 103, 104, 105, 106, 107, 108, 109, 110, 111, 112, 113, 114, 115, 116, 117, 118, 119, 120, 121, 122, 123, 124, 125, 126, 127, 128, 129, 130, 131, 132, 133, 134, 135, 136, 137, 138, 139, 140, 141, 142, 143, 144, 145, 146, 21, 22, 13, 23, 24, 25, 26, 27, 28, 29, 147, 152, 252, 253, 254, 255, 256, 167, 257, 258, 259, 164, 165, 260, 261, 262, 263, 264, 265, 181, 266, 267, 268, 269, 270, 271, 272, 273, 274, 275, 276, 277, 278, 279, 280, 281, 282, 283, 284, 285, 286, 287, 288, 289, 290, 291, 292, 293, 294, 295, 296, 297, 298, 299, 300, 301, 302, 303, 304, 305, 306, 307, 308, 309, 310, 311, 312, 313, 314, 315, 316, 317, 318, 319, 320, 321, 322, 323, 324, 325, 326, 327, 328, 329, 330, 331, 332, 333, 334, 335, 336, 337, 338, 339, 9, 10, 11, 12, 14, 15, 340, 341, 342, 343, 344, 345, 346, 347, 348, 349, 350, 351, 352, 20, 353, 354, 355, 356, 357, 358, 359, 360, 361, 362, 363, 364, 365, 366, 367, 368, 369, 370, 371, 372, 373, 374, 375, 376, 377, 378, 379, 380, 381, 382, 383, 384, 385, 386, 387, 388, 389, 390, 391, 392, 393, 394, 395, 396, 397, 398, 399, 400, 401, 402, 403, 404, 405, 406, 407, 408, 409, 410, 411, 412, 413, 414, 415, 416, 417, 418, 419, 420, 421, 422, 423, 424, 425, 426, 427, 428, 429, 430, 431, 432, 433, 434, 452, 453, 454, 455, 439, 440, 441, 442, 443, 444, 445, 446, 447, 448, 449, 450, 451, 456, 457, 458, 435, 436, 437, 438, 459, 460, 461, 462, 463, 464, 465, 466] (by decide +kernel) (by decide +kernel)) (goodIn_sub (fun _ h => List.mem_cons_of_mem _ (List.mem_append_left _ (List.mem_append_left _ (List.mem_append_right _ h)))) (by decide +kernel))) (goodIn_sub (fun _ h => List.mem_cons_of_mem _ (List.mem_append_right _ h)) (by decide +kernel))) (goodIn_sub (fun _ h => List.mem_cons_of_mem _ (List.mem_append_left _ (List.mem_append_right _ h))) (by decide +kernel))
set_option maxRecDepth 20000 in
theorem gL_refuses_L_act : GoodIn wsL_refuses (va_wsS RL 85 yL_act wsL_act) := goodIn_app (goodIn_of _ (by decide +kernel)) ggL_refuses_L_act
set_option maxRecDepth 20000 in
theorem ggL_refuses_X7_kindOf : GoodIn wsL_refuses wsX7_kindOf := goodIn_ca (goodIn_r _ [251, 166, 37, 38, 7, 39, 40, 41, 42, 43, 44, 45, 46, 47, 179, 64, 65, 66, 67, 68, 30, 31, 427, 428, 429, 430, 431, 432, 433, 434, 452, 453, 454, 455] (by decide +kernel) (by decide +kernel)) (goodIn_sub (fun _ h => List.mem_cons_of_mem _ (List.mem_append_left _ (List.mem_append_left _ (List.mem_append_right _ h)))) (by decide +kernel))
set_option maxRecDepth 20000 in
theorem gL_refuses_X7_kindOf : GoodIn wsL_refuses (wsV RL 23 RX7 yX7_kindOf wsX7_kindOf) := goodIn_app (goodIn_of _ (by decide +kernel)) ggL_refuses_X7_kindOf
theorem dL_refuses_0 : decode cL_refuses 0 = .ok (.aload_n 0, 1) := by decide +kernel
theorem dL_refuses_1 : decode cL_refuses 1 = .ok (.invokevirtual 71, 3) := by decide +kernel
theorem dL_refuses_4 : decode cL_refuses 4 = .ok (.istore_n 1, 1) := by decide +kernel
theorem dL_refuses_5 : decode cL_refuses 5 = .ok (.aload_n 0, 1) := by decide +kernel
theorem dL_refuses_6 : decode cL_refuses 6 = .ok (.invokevirtual 74, 3) := by decide +kernel
theorem dL_refuses_9 : decode cL_refuses 9 = .ok (.istore_n 2, 1) := by decide +kernel
theorem dL_refuses_10 : decode cL_refuses 10 = .ok (.aload_n 0, 1) := by decide +kernel
theorem dL_refuses_11 : decode cL_refuses 11 = .ok (.bipush 15, 2) := by decide +kernel
theorem dL_refuses_13 : decode cL_refuses 13 = .ok (.invokevirtual 27, 3) := by decide +kernel
theorem dL_refuses_16 : decode cL_refuses 16 = .ok (.istore_n 3, 1) := by decide +kernel
theorem dL_refuses_17 : decode cL_refuses 17 = .ok (.ldc 77, 2) := by decide +kernel
theorem dL_refuses_19 : decode cL_refuses 19 = .ok (.istore 4, 2) := by decide +kernel
theorem dL_refuses_21 : decode cL_refuses 21 = .ok (.iconst 0, 1) := by decide +kernel
theorem dL_refuses_22 : decode cL_refuses 22 = .ok (.istore 5, 2) := by decide +kernel
theorem dL_refuses_24 : decode cL_refuses 24 = .ok (.iload 5, 2) := by decide +kernel
theorem dL_refuses_26 : decode cL_refuses 26 = .ok (.iconst 4, 1) := by decide +kernel
theorem dL_refuses_27 : decode cL_refuses 27 = .ok (.if_icmp .ge 688, 3) := by decide +kernel
theorem dL_refuses_30 : decode cL_refuses 30 = .ok (.iload 5, 2) := by decide +kernel
theorem dL_refuses_32 : decode cL_refuses 32 = .ok (.ifCond .ne 7, 3) := by decide +kernel
theorem dL_refuses_35 : decode cL_refuses 35 = .ok (.iconst (-1), 1) := by decide +kernel
theorem dL_refuses_36 : decode cL_refuses 36 = .ok (.goto 19, 3) := by decide +kernel
theorem dL_refuses_39 : decode cL_refuses 39 = .ok (.iload 5, 2) := by decide +kernel
theorem dL_refuses_41 : decode cL_refuses 41 = .ok (.iconst 2, 1) := by decide +kernel
theorem dL_refuses_42 : decode cL_refuses 42 = .ok (.if_icmp .ne 8, 3) := by decide +kernel
theorem dL_refuses_45 : decode cL_refuses 45 = .ok (.iload 4, 2) := by decide +kernel
theorem dL_refuses_47 : decode cL_refuses 47 = .ok (.goto 8, 3) := by decide +kernel
theorem dL_refuses_50 : decode cL_refuses 50 = .ok (.iload 4, 2) := by decide +kernel
theorem dL_refuses_52 : decode cL_refuses 52 = .ok (.ineg, 1) := by decide +kernel
theorem dL_refuses_53 : decode cL_refuses 53 = .ok (.iconst 1, 1) := by decide +kernel
theorem dL_refuses_54 : decode cL_refuses 54 = .ok (.isub, 1) := by decide +kernel
theorem dL_refuses_55 : decode cL_refuses 55 = .ok (.istore 6, 2) := by decide +kernel
theorem dL_refuses_57 : decode cL_refuses 57 = .ok (.iload 5, 2) := by decide +kernel
theorem dL_refuses_59 : decode cL_refuses 59 = .ok (.iconst 1, 1) := by decide +kernel
theorem dL_refuses_60 : decode cL_refuses 60 = .ok (.if_icmp .ne 8, 3) := by decide +kernel
theorem dL_refuses_63 : decode cL_refuses 63 = .ok (.bipush 16, 2) := by decide +kernel
theorem dL_refuses_65 : decode cL_refuses 65 = .ok (.goto 5, 3) := by decide +kernel
theorem dL_refuses_68 : decode cL_refuses 68 = .ok (.iload 6, 2) := by decide +kernel
theorem dL_refuses_70 : decode cL_refuses 70 = .ok (.istore 7, 2) := by decide +kernel
theorem dL_refuses_72 : decode cL_refuses 72 = .ok (.iload 5, 2) := by decide +kernel
theorem dL_refuses_74 : decode cL_refuses 74 = .ok (.iconst 1, 1) := by decide +kernel
theorem dL_refuses_75 : decode cL_refuses 75 = .ok (.if_icmp .ne 8, 3) := by decide +kernel
theorem dL_refuses_78 : decode cL_refuses 78 = .ok (.ldc 78, 2) := by decide +kernel
theorem dL_refuses_80 : decode cL_refuses 80 = .ok (.goto 5, 3) := by decide +kernel
theorem dL_refuses_83 : decode cL_refuses 83 = .ok (.iload 6, 2) := by decide +kernel
theorem dL_refuses_85 : decode cL_refuses 85 = .ok (.istore 8, 2) := by decide +kernel
theorem dL_refuses_87 : decode cL_refuses 87 = .ok (.iload 5, 2) := by decide +kernel
theorem dL_refuses_89 : decode cL_refuses 89 = .ok (.iconst 1, 1) := by decide +kernel
theorem dL_refuses_90 : decode cL_refuses 90 = .ok (.if_icmp .ne 8, 3) := by decide +kernel
theorem dL_refuses_93 : decode cL_refuses 93 = .ok (.ldc 79, 2) := by decide +kernel
theorem dL_refuses_95 : decode cL_refuses 95 = .ok (.goto 5, 3) := by decide +kernel
theorem dL_refuses_98 : decode cL_refuses 98 = .ok (.iload 6, 2) := by decide +kernel
theorem dL_refuses_100 : decode cL_refuses 100 = .ok (.istore 9, 2) := by decide +kernel
theorem dL_refuses_102 : decode cL_refuses 102 = .ok (.iload 5, 2) := by decide +kernel
theorem dL_refuses_104 : decode cL_refuses 104 = .ok (.iconst 1, 1) := by decide +kernel
theorem dL_refuses_105 : decode cL_refuses 105 = .ok (.if_icmp .ne 9, 3) := by decide +kernel
theorem dL_refuses_108 : decode cL_refuses 108 = .ok (.sipush 1001, 3) := by decide +kernel
theorem dL_refuses_111 : decode cL_refuses 111 = .ok (.goto 5, 3) := by decide +kernel
theorem dL_refuses_114 : decode cL_refuses 114 = .ok (.iload 6, 2) := by decide +kernel
theorem dL_refuses_116 : decode cL_refuses 116 = .ok (.istore 10, 2) := by decide +kernel
theorem dL_refuses_118 : decode cL_refuses 118 = .ok (.aload_n 0, 1) := by decide +kernel
theorem dL_refuses_119 : decode cL_refuses 119 = .ok (.iload 7, 2) := by decide +kernel
theorem dL_refuses_121 : decode cL_refuses 121 = .ok (.bipush 99, 2) := by decide +kernel
theorem dL_refuses_123 : decode cL_refuses 123 = .ok (.iconst 0, 1) := by decide +kernel
theorem dL_refuses_124 : decode cL_refuses 124 = .ok (.iconst 0, 1) := by decide +kernel
theorem dL_refuses_125 : decode cL_refuses 125 = .ok (.invokestatic 80, 3) := by decide +kernel
theorem dL_refuses_128 : decode cL_refuses 128 = .ok (.bipush (-71), 2) := by decide +kernel
theorem dL_refuses_130 : decode cL_refuses 130 = .ok (.if_icmp .ne 143, 3) := by decide +kernel
theorem dL_refuses_133 : decode cL_refuses 133 = .ok (.aload_n 0, 1) := by decide +kernel
theorem dL_refuses_134 : decode cL_refuses 134 = .ok (.bipush 15, 2) := by decide +kernel
theorem dL_refuses_136 : decode cL_refuses 136 = .ok (.iload 5, 2) := by decide +kernel
theorem dL_refuses_138 : decode cL_refuses 138 = .ok (.iconst 1, 1) := by decide +kernel
theorem dL_refuses_139 : decode cL_refuses 139 = .ok (.if_icmp .ne 8, 3) := by decide +kernel
theorem dL_refuses_142 : decode cL_refuses 142 = .ok (.bipush 9, 2) := by decide +kernel
theorem dL_refuses_144 : decode cL_refuses 144 = .ok (.goto 5, 3) := by decide +kernel
theorem dL_refuses_147 : decode cL_refuses 147 = .ok (.iload 6, 2) := by decide +kernel
theorem dL_refuses_149 : decode cL_refuses 149 = .ok (.iload 7, 2) := by decide +kernel
theorem dL_refuses_151 : decode cL_refuses 151 = .ok (.iload 7, 2) := by decide +kernel
theorem dL_refuses_153 : decode cL_refuses 153 = .ok (.invokestatic 80, 3) := by decide +kernel
theorem dL_refuses_156 : decode cL_refuses 156 = .ok (.bipush (-72), 2) := by decide +kernel
theorem dL_refuses_158 : decode cL_refuses 158 = .ok (.if_icmp .ne 115, 3) := by decide +kernel
theorem dL_refuses_161 : decode cL_refuses 161 = .ok (.aload_n 0, 1) := by decide +kernel
theorem dL_refuses_162 : decode cL_refuses 162 = .ok (.bipush 15, 2) := by decide +kernel
theorem dL_refuses_164 : decode cL_refuses 164 = .ok (.iconst 1, 1) := by decide +kernel
theorem dL_refuses_165 : decode cL_refuses 165 = .ok (.iload 7, 2) := by decide +kernel
theorem dL_refuses_167 : decode cL_refuses 167 = .ok (.iconst 0, 1) := by decide +kernel
theorem dL_refuses_168 : decode cL_refuses 168 = .ok (.invokestatic 80, 3) := by decide +kernel
theorem dL_refuses_171 : decode cL_refuses 171 = .ok (.bipush (-71), 2) := by decide +kernel
theorem dL_refuses_173 : decode cL_refuses 173 = .ok (.if_icmp .ne 100, 3) := by decide +kernel
theorem dL_refuses_176 : decode cL_refuses 176 = .ok (.aload_n 0, 1) := by decide +kernel
theorem dL_refuses_177 : decode cL_refuses 177 = .ok (.bipush 15, 2) := by decide +kernel
theorem dL_refuses_179 : decode cL_refuses 179 = .ok (.iconst 1, 1) := by decide +kernel
theorem dL_refuses_180 : decode cL_refuses 180 = .ok (.iconst 0, 1) := by decide +kernel
theorem dL_refuses_181 : decode cL_refuses 181 = .ok (.iload 7, 2) := by decide +kernel
theorem dL_refuses_183 : decode cL_refuses 183 = .ok (.invokestatic 80, 3) := by decide +kernel
theorem dL_refuses_186 : decode cL_refuses 186 = .ok (.bipush (-71), 2) := by decide +kernel
theorem dL_refuses_188 : decode cL_refuses 188 = .ok (.if_icmp .ne 85, 3) := by decide +kernel
theorem dL_refuses_191 : decode cL_refuses 191 = .ok (.aload_n 0, 1) := by decide +kernel
theorem dL_refuses_192 : decode cL_refuses 192 = .ok (.bipush 15, 2) := by decide +kernel
theorem dL_refuses_194 : decode cL_refuses 194 = .ok (.iconst 3, 1) := by decide +kernel
theorem dL_refuses_195 : decode cL_refuses 195 = .ok (.iload 7, 2) := by decide +kernel
theorem dL_refuses_197 : decode cL_refuses 197 = .ok (.iconst (-1), 1) := by decide +kernel
theorem dL_refuses_198 : decode cL_refuses 198 = .ok (.invokestatic 80, 3) := by decide +kernel
theorem dL_refuses_201 : decode cL_refuses 201 = .ok (.bipush (-71), 2) := by decide +kernel
theorem dL_refuses_203 : decode cL_refuses 203 = .ok (.if_icmp .ne 70, 3) := by decide +kernel
theorem dL_refuses_206 : decode cL_refuses 206 = .ok (.aload_n 0, 1) := by decide +kernel
theorem dL_refuses_207 : decode cL_refuses 207 = .ok (.bipush 15, 2) := by decide +kernel
theorem dL_refuses_209 : decode cL_refuses 209 = .ok (.iconst 3, 1) := by decide +kernel
theorem dL_refuses_210 : decode cL_refuses 210 = .ok (.iconst 0, 1) := by decide +kernel
theorem dL_refuses_211 : decode cL_refuses 211 = .ok (.iload 10, 2) := by decide +kernel
theorem dL_refuses_213 : decode cL_refuses 213 = .ok (.invokestatic 80, 3) := by decide +kernel
theorem dL_refuses_216 : decode cL_refuses 216 = .ok (.bipush (-72), 2) := by decide +kernel
theorem dL_refuses_218 : decode cL_refuses 218 = .ok (.if_icmp .ne 55, 3) := by decide +kernel
theorem dL_refuses_221 : decode cL_refuses 221 = .ok (.aload_n 0, 1) := by decide +kernel
theorem dL_refuses_222 : decode cL_refuses 222 = .ok (.bipush 15, 2) := by decide +kernel
theorem dL_refuses_224 : decode cL_refuses 224 = .ok (.bipush 6, 2) := by decide +kernel
theorem dL_refuses_226 : decode cL_refuses 226 = .ok (.iload 7, 2) := by decide +kernel
theorem dL_refuses_228 : decode cL_refuses 228 = .ok (.iconst 0, 1) := by decide +kernel
theorem dL_refuses_229 : decode cL_refuses 229 = .ok (.invokestatic 80, 3) := by decide +kernel
theorem dL_refuses_232 : decode cL_refuses 232 = .ok (.bipush (-71), 2) := by decide +kernel
theorem dL_refuses_234 : decode cL_refuses 234 = .ok (.if_icmp .ne 39, 3) := by decide +kernel
theorem dL_refuses_237 : decode cL_refuses 237 = .ok (.aload_n 0, 1) := by decide +kernel
theorem dL_refuses_238 : decode cL_refuses 238 = .ok (.bipush 15, 2) := by decide +kernel
theorem dL_refuses_240 : decode cL_refuses 240 = .ok (.bipush 8, 2) := by decide +kernel
theorem dL_refuses_242 : decode cL_refuses 242 = .ok (.iconst 0, 1) := by decide +kernel
theorem dL_refuses_243 : decode cL_refuses 243 = .ok (.iload 7, 2) := by decide +kernel
theorem dL_refuses_245 : decode cL_refuses 245 = .ok (.invokestatic 80, 3) := by decide +kernel
theorem dL_refuses_248 : decode cL_refuses 248 = .ok (.bipush (-71), 2) := by decide +kernel
theorem dL_refuses_250 : decode cL_refuses 250 = .ok (.if_icmp .ne 23, 3) := by decide +kernel
theorem dL_refuses_253 : decode cL_refuses 253 = .ok (.aload_n 0, 1) := by decide +kernel
theorem dL_refuses_254 : decode cL_refuses 254 = .ok (.bipush 15, 2) := by decide +kernel
theorem dL_refuses_256 : decode cL_refuses 256 = .ok (.bipush 7, 2) := by decide +kernel
theorem dL_refuses_258 : decode cL_refuses 258 = .ok (.iload 7, 2) := by decide +kernel
theorem dL_refuses_260 : decode cL_refuses 260 = .ok (.iconst 0, 1) := by decide +kernel
theorem dL_refuses_261 : decode cL_refuses 261 = .ok (.invokestatic 80, 3) := by decide +kernel
theorem dL_refuses_264 : decode cL_refuses 264 = .ok (.bipush (-71), 2) := by decide +kernel
theorem dL_refuses_266 : decode cL_refuses 266 = .ok (.if_icmp .ne 7, 3) := by decide +kernel
theorem dL_refuses_269 : decode cL_refuses 269 = .ok (.iconst 1, 1) := by decide +kernel
theorem dL_refuses_270 : decode cL_refuses 270 = .ok (.goto 4, 3) := by decide +kernel
theorem dL_refuses_273 : decode cL_refuses 273 = .ok (.iconst 0, 1) := by decide +kernel
theorem dL_refuses_274 : decode cL_refuses 274 = .ok (.istore 11, 2) := by decide +kernel
theorem dL_refuses_276 : decode cL_refuses 276 = .ok (.iload 11, 2) := by decide +kernel
theorem dL_refuses_278 : decode cL_refuses 278 = .ok (.ifCond .eq 220, 3) := by decide +kernel
theorem dL_refuses_281 : decode cL_refuses 281 = .ok (.aload_n 0, 1) := by decide +kernel
theorem dL_refuses_282 : decode cL_refuses 282 = .ok (.iconst 0, 1) := by decide +kernel
theorem dL_refuses_283 : decode cL_refuses 283 = .ok (.iload 7, 2) := by decide +kernel
theorem dL_refuses_285 : decode cL_refuses 285 = .ok (.iconst (-1), 1) := by decide +kernel
theorem dL_refuses_286 : decode cL_refuses 286 = .ok (.invokestatic 85, 3) := by decide +kernel
theorem dL_refuses_289 : decode cL_refuses 289 = .ok (.bipush (-71), 2) := by decide +kernel
theorem dL_refuses_291 : decode cL_refuses 291 = .ok (.if_icmp .ne 207, 3) := by decide +kernel
theorem dL_refuses_294 : decode cL_refuses 294 = .ok (.aload_n 0, 1) := by decide +kernel
theorem dL_refuses_295 : decode cL_refuses 295 = .ok (.iconst 0, 1) := by decide +kernel
theorem dL_refuses_296 : decode cL_refuses 296 = .ok (.bipush 15, 2) := by decide +kernel
theorem dL_refuses_298 : decode cL_refuses 298 = .ok (.iload 9, 2) := by decide +kernel
theorem dL_refuses_300 : decode cL_refuses 300 = .ok (.invokestatic 85, 3) := by decide +kernel
theorem dL_refuses_303 : decode cL_refuses 303 = .ok (.bipush (-72), 2) := by decide +kernel
theorem dL_refuses_305 : decode cL_refuses 305 = .ok (.if_icmp .ne 193, 3) := by decide +kernel
theorem dL_refuses_308 : decode cL_refuses 308 = .ok (.aload_n 0, 1) := by decide +kernel
theorem dL_refuses_309 : decode cL_refuses 309 = .ok (.iconst 1, 1) := by decide +kernel
theorem dL_refuses_310 : decode cL_refuses 310 = .ok (.iload 7, 2) := by decide +kernel
theorem dL_refuses_312 : decode cL_refuses 312 = .ok (.iconst 0, 1) := by decide +kernel
theorem dL_refuses_313 : decode cL_refuses 313 = .ok (.invokestatic 85, 3) := by decide +kernel
theorem dL_refuses_316 : decode cL_refuses 316 = .ok (.bipush (-71), 2) := by decide +kernel
theorem dL_refuses_318 : decode cL_refuses 318 = .ok (.if_icmp .ne 180, 3) := by decide +kernel
theorem dL_refuses_321 : decode cL_refuses 321 = .ok (.aload_n 0, 1) := by decide +kernel
theorem dL_refuses_322 : decode cL_refuses 322 = .ok (.iconst 2, 1) := by decide +kernel
theorem dL_refuses_323 : decode cL_refuses 323 = .ok (.iload 7, 2) := by decide +kernel
theorem dL_refuses_325 : decode cL_refuses 325 = .ok (.iconst 0, 1) := by decide +kernel
theorem dL_refuses_326 : decode cL_refuses 326 = .ok (.invokestatic 85, 3) := by decide +kernel
theorem dL_refuses_329 : decode cL_refuses 329 = .ok (.bipush (-71), 2) := by decide +kernel
theorem dL_refuses_331 : decode cL_refuses 331 = .ok (.if_icmp .ne 167, 3) := by decide +kernel
theorem dL_refuses_334 : decode cL_refuses 334 = .ok (.aload_n 0, 1) := by decide +kernel
theorem dL_refuses_335 : decode cL_refuses 335 = .ok (.iconst 3, 1) := by decide +kernel
theorem dL_refuses_336 : decode cL_refuses 336 = .ok (.iload 7, 2) := by decide +kernel
theorem dL_refuses_338 : decode cL_refuses 338 = .ok (.iconst (-1), 1) := by decide +kernel
theorem dL_refuses_339 : decode cL_refuses 339 = .ok (.invokestatic 85, 3) := by decide +kernel
theorem dL_refuses_342 : decode cL_refuses 342 = .ok (.bipush (-71), 2) := by decide +kernel
theorem dL_refuses_344 : decode cL_refuses 344 = .ok (.if_icmp .ne 154, 3) := by decide +kernel
theorem dL_refuses_347 : decode cL_refuses 347 = .ok (.aload_n 0, 1) := by decide +kernel
theorem dL_refuses_348 : decode cL_refuses 348 = .ok (.iconst 3, 1) := by decide +kernel
theorem dL_refuses_349 : decode cL_refuses 349 = .ok (.bipush 15, 2) := by decide +kernel
theorem dL_refuses_351 : decode cL_refuses 351 = .ok (.iload 8, 2) := by decide +kernel
theorem dL_refuses_353 : decode cL_refuses 353 = .ok (.invokestatic 85, 3) := by decide +kernel
theorem dL_refuses_356 : decode cL_refuses 356 = .ok (.bipush (-72), 2) := by decide +kernel
theorem dL_refuses_358 : decode cL_refuses 358 = .ok (.if_icmp .ne 140, 3) := by decide +kernel
theorem dL_refuses_361 : decode cL_refuses 361 = .ok (.aload_n 0, 1) := by decide +kernel
theorem dL_refuses_362 : decode cL_refuses 362 = .ok (.iconst 3, 1) := by decide +kernel
theorem dL_refuses_363 : decode cL_refuses 363 = .ok (.bipush 15, 2) := by decide +kernel
theorem dL_refuses_365 : decode cL_refuses 365 = .ok (.iconst 0, 1) := by decide +kernel
theorem dL_refuses_366 : decode cL_refuses 366 = .ok (.invokestatic 85, 3) := by decide +kernel
theorem dL_refuses_369 : decode cL_refuses 369 = .ok (.bipush (-73), 2) := by decide +kernel
theorem dL_refuses_371 : decode cL_refuses 371 = .ok (.if_icmp .ne 127, 3) := by decide +kernel
theorem dL_refuses_374 : decode cL_refuses 374 = .ok (.aload_n 0, 1) := by decide +kernel
theorem dL_refuses_375 : decode cL_refuses 375 = .ok (.iconst 4, 1) := by decide +kernel
theorem dL_refuses_376 : decode cL_refuses 376 = .ok (.iload 7, 2) := by decide +kernel
theorem dL_refuses_378 : decode cL_refuses 378 = .ok (.iconst 0, 1) := by decide +kernel
theorem dL_refuses_379 : decode cL_refuses 379 = .ok (.invokestatic 85, 3) := by decide +kernel
theorem dL_refuses_382 : decode cL_refuses 382 = .ok (.bipush (-71), 2) := by decide +kernel
theorem dL_refuses_384 : decode cL_refuses 384 = .ok (.if_icmp .ne 114, 3) := by decide +kernel
theorem dL_refuses_387 : decode cL_refuses 387 = .ok (.aload_n 0, 1) := by decide +kernel
theorem dL_refuses_388 : decode cL_refuses 388 = .ok (.iconst 4, 1) := by decide +kernel
theorem dL_refuses_389 : decode cL_refuses 389 = .ok (.iconst 0, 1) := by decide +kernel
theorem dL_refuses_390 : decode cL_refuses 390 = .ok (.iload 7, 2) := by decide +kernel
theorem dL_refuses_392 : decode cL_refuses 392 = .ok (.invokestatic 85, 3) := by decide +kernel
theorem dL_refuses_395 : decode cL_refuses 395 = .ok (.bipush (-71), 2) := by decide +kernel
theorem dL_refuses_397 : decode cL_refuses 397 = .ok (.if_icmp .ne 101, 3) := by decide +kernel
theorem dL_refuses_400 : decode cL_refuses 400 = .ok (.aload_n 0, 1) := by decide +kernel
theorem dL_refuses_401 : decode cL_refuses 401 = .ok (.iconst 5, 1) := by decide +kernel
theorem dL_refuses_402 : decode cL_refuses 402 = .ok (.iload 7, 2) := by decide +kernel
theorem dL_refuses_404 : decode cL_refuses 404 = .ok (.iconst 0, 1) := by decide +kernel
theorem dL_refuses_405 : decode cL_refuses 405 = .ok (.invokestatic 85, 3) := by decide +kernel
theorem dL_refuses_408 : decode cL_refuses 408 = .ok (.bipush (-71), 2) := by decide +kernel
theorem dL_refuses_410 : decode cL_refuses 410 = .ok (.if_icmp .ne 88, 3) := by decide +kernel
theorem dL_refuses_413 : decode cL_refuses 413 = .ok (.aload_n 0, 1) := by decide +kernel
theorem dL_refuses_414 : decode cL_refuses 414 = .ok (.bipush 6, 2) := by decide +kernel
theorem dL_refuses_416 : decode cL_refuses 416 = .ok (.iload 7, 2) := by decide +kernel
theorem dL_refuses_418 : decode cL_refuses 418 = .ok (.iconst 0, 1) := by decide +kernel
theorem dL_refuses_419 : decode cL_refuses 419 = .ok (.invokestatic 85, 3) := by decide +kernel
theorem dL_refuses_422 : decode cL_refuses 422 = .ok (.bipush (-71), 2) := by decide +kernel
theorem dL_refuses_424 : decode cL_refuses 424 = .ok (.if_icmp .ne 74, 3) := by decide +kernel
theorem dL_refuses_427 : decode cL_refuses 427 = .ok (.aload_n 0, 1) := by decide +kernel
theorem dL_refuses_428 : decode cL_refuses 428 = .ok (.bipush 6, 2) := by decide +kernel
theorem dL_refuses_430 : decode cL_refuses 430 = .ok (.iconst 0, 1) := by decide +kernel
theorem dL_refuses_431 : decode cL_refuses 431 = .ok (.iload 5, 2) := by decide +kernel
theorem dL_refuses_433 : decode cL_refuses 433 = .ok (.iconst 2, 1) := by decide +kernel
theorem dL_refuses_434 : decode cL_refuses 434 = .ok (.if_icmp .ge 7, 3) := by decide +kernel
theorem dL_refuses_437 : decode cL_refuses 437 = .ok (.iconst (-1), 1) := by decide +kernel
theorem dL_refuses_438 : decode cL_refuses 438 = .ok (.goto 6, 3) := by decide +kernel
theorem dL_refuses_441 : decode cL_refuses 441 = .ok (.iload 4, 2) := by decide +kernel
theorem dL_refuses_443 : decode cL_refuses 443 = .ok (.ineg, 1) := by decide +kernel
theorem dL_refuses_444 : decode cL_refuses 444 = .ok (.invokestatic 85, 3) := by decide +kernel
theorem dL_refuses_447 : decode cL_refuses 447 = .ok (.bipush (-71), 2) := by decide +kernel
theorem dL_refuses_449 : decode cL_refuses 449 = .ok (.if_icmp .ne 49, 3) := by decide +kernel
theorem dL_refuses_452 : decode cL_refuses 452 = .ok (.aload_n 0, 1) := by decide +kernel
theorem dL_refuses_453 : decode cL_refuses 453 = .ok (.bipush 7, 2) := by decide +kernel
theorem dL_refuses_455 : decode cL_refuses 455 = .ok (.iload 9, 2) := by decide +kernel
theorem dL_refuses_457 : decode cL_refuses 457 = .ok (.iconst 0, 1) := by decide +kernel
theorem dL_refuses_458 : decode cL_refuses 458 = .ok (.invokestatic 85, 3) := by decide +kernel
theorem dL_refuses_461 : decode cL_refuses 461 = .ok (.bipush (-72), 2) := by decide +kernel
theorem dL_refuses_463 : decode cL_refuses 463 = .ok (.if_icmp .ne 35, 3) := by decide +kernel
theorem dL_refuses_466 : decode cL_refuses 466 = .ok (.aload_n 0, 1) := by decide +kernel
theorem dL_refuses_467 : decode cL_refuses 467 = .ok (.bipush 7, 2) := by decide +kernel
theorem dL_refuses_469 : decode cL_refuses 469 = .ok (.iconst 0, 1) := by decide +kernel
theorem dL_refuses_470 : decode cL_refuses 470 = .ok (.iload 10, 2) := by decide +kernel
theorem dL_refuses_472 : decode cL_refuses 472 = .ok (.invokestatic 85, 3) := by decide +kernel
theorem dL_refuses_475 : decode cL_refuses 475 = .ok (.bipush (-72), 2) := by decide +kernel
theorem dL_refuses_477 : decode cL_refuses 477 = .ok (.if_icmp .ne 21, 3) := by decide +kernel
theorem dL_refuses_480 : decode cL_refuses 480 = .ok (.aload_n 0, 1) := by decide +kernel
theorem dL_refuses_481 : decode cL_refuses 481 = .ok (.bipush 8, 2) := by decide +kernel
theorem dL_refuses_483 : decode cL_refuses 483 = .ok (.iload 8, 2) := by decide +kernel
theorem dL_refuses_485 : decode cL_refuses 485 = .ok (.iconst 0, 1) := by decide +kernel
theorem dL_refuses_486 : decode cL_refuses 486 = .ok (.invokestatic 85, 3) := by decide +kernel
theorem dL_refuses_489 : decode cL_refuses 489 = .ok (.bipush (-72), 2) := by decide +kernel
theorem dL_refuses_491 : decode cL_refuses 491 = .ok (.if_icmp .ne 7, 3) := by decide +kernel
theorem dL_refuses_494 : decode cL_refuses 494 = .ok (.iconst 1, 1) := by decide +kernel
theorem dL_refuses_495 : decode cL_refuses 495 = .ok (.goto 4, 3) := by decide +kernel
theorem dL_refuses_498 : decode cL_refuses 498 = .ok (.iconst 0, 1) := by decide +kernel
theorem dL_refuses_499 : decode cL_refuses 499 = .ok (.istore 11, 2) := by decide +kernel
theorem dL_refuses_501 : decode cL_refuses 501 = .ok (.iload 11, 2) := by decide +kernel
theorem dL_refuses_503 : decode cL_refuses 503 = .ok (.ifCond .eq 196, 3) := by decide +kernel
theorem dL_refuses_506 : decode cL_refuses 506 = .ok (.aload_n 0, 1) := by decide +kernel
theorem dL_refuses_507 : decode cL_refuses 507 = .ok (.bipush 9, 2) := by decide +kernel
theorem dL_refuses_509 : decode cL_refuses 509 = .ok (.iload 5, 2) := by decide +kernel
theorem dL_refuses_511 : decode cL_refuses 511 = .ok (.ifCond .ne 7, 3) := by decide +kernel
theorem dL_refuses_514 : decode cL_refuses 514 = .ok (.iconst 0, 1) := by decide +kernel
theorem dL_refuses_515 : decode cL_refuses 515 = .ok (.goto 5, 3) := by decide +kernel
theorem dL_refuses_518 : decode cL_refuses 518 = .ok (.iload 9, 2) := by decide +kernel
theorem dL_refuses_520 : decode cL_refuses 520 = .ok (.iload_n 1, 1) := by decide +kernel
theorem dL_refuses_521 : decode cL_refuses 521 = .ok (.invokestatic 85, 3) := by decide +kernel
theorem dL_refuses_524 : decode cL_refuses 524 = .ok (.bipush (-72), 2) := by decide +kernel
theorem dL_refuses_526 : decode cL_refuses 526 = .ok (.if_icmp .ne 173, 3) := by decide +kernel
theorem dL_refuses_529 : decode cL_refuses 529 = .ok (.aload_n 0, 1) := by decide +kernel
theorem dL_refuses_530 : decode cL_refuses 530 = .ok (.bipush 9, 2) := by decide +kernel
theorem dL_refuses_532 : decode cL_refuses 532 = .ok (.iconst 5, 1) := by decide +kernel
theorem dL_refuses_533 : decode cL_refuses 533 = .ok (.iload 5, 2) := by decide +kernel
theorem dL_refuses_535 : decode cL_refuses 535 = .ok (.ifCond .ne 9, 3) := by decide +kernel
theorem dL_refuses_538 : decode cL_refuses 538 = .ok (.iload_n 1, 1) := by decide +kernel
theorem dL_refuses_539 : decode cL_refuses 539 = .ok (.iconst 1, 1) := by decide +kernel
theorem dL_refuses_540 : decode cL_refuses 540 = .ok (.isub, 1) := by decide +kernel
theorem dL_refuses_541 : decode cL_refuses 541 = .ok (.goto 18, 3) := by decide +kernel
theorem dL_refuses_544 : decode cL_refuses 544 = .ok (.iload 5, 2) := by decide +kernel
theorem dL_refuses_546 : decode cL_refuses 546 = .ok (.iconst 1, 1) := by decide +kernel
theorem dL_refuses_547 : decode cL_refuses 547 = .ok (.if_icmp .ne 10, 3) := by decide +kernel
theorem dL_refuses_550 : decode cL_refuses 550 = .ok (.iload_n 1, 1) := by decide +kernel
theorem dL_refuses_551 : decode cL_refuses 551 = .ok (.bipush 21, 2) := by decide +kernel
theorem dL_refuses_553 : decode cL_refuses 553 = .ok (.iadd, 1) := by decide +kernel
theorem dL_refuses_554 : decode cL_refuses 554 = .ok (.goto 5, 3) := by decide +kernel
theorem dL_refuses_557 : decode cL_refuses 557 = .ok (.iload 6, 2) := by decide +kernel
theorem dL_refuses_559 : decode cL_refuses 559 = .ok (.invokestatic 85, 3) := by decide +kernel
theorem dL_refuses_562 : decode cL_refuses 562 = .ok (.bipush (-72), 2) := by decide +kernel
theorem dL_refuses_564 : decode cL_refuses 564 = .ok (.if_icmp .ne 135, 3) := by decide +kernel
theorem dL_refuses_567 : decode cL_refuses 567 = .ok (.aload_n 0, 1) := by decide +kernel
theorem dL_refuses_568 : decode cL_refuses 568 = .ok (.bipush 10, 2) := by decide +kernel
theorem dL_refuses_570 : decode cL_refuses 570 = .ok (.iload 5, 2) := by decide +kernel
theorem dL_refuses_572 : decode cL_refuses 572 = .ok (.iconst 1, 1) := by decide +kernel
theorem dL_refuses_573 : decode cL_refuses 573 = .ok (.if_icmp .ne 8, 3) := by decide +kernel
theorem dL_refuses_576 : decode cL_refuses 576 = .ok (.bipush 8, 2) := by decide +kernel
theorem dL_refuses_578 : decode cL_refuses 578 = .ok (.goto 5, 3) := by decide +kernel
theorem dL_refuses_581 : decode cL_refuses 581 = .ok (.iload 6, 2) := by decide +kernel
theorem dL_refuses_583 : decode cL_refuses 583 = .ok (.iconst 0, 1) := by decide +kernel
theorem dL_refuses_584 : decode cL_refuses 584 = .ok (.invokestatic 85, 3) := by decide +kernel
theorem dL_refuses_587 : decode cL_refuses 587 = .ok (.bipush (-71), 2) := by decide +kernel
theorem dL_refuses_589 : decode cL_refuses 589 = .ok (.if_icmp .ne 110, 3) := by decide +kernel
theorem dL_refuses_592 : decode cL_refuses 592 = .ok (.aload_n 0, 1) := by decide +kernel
theorem dL_refuses_593 : decode cL_refuses 593 = .ok (.bipush 11, 2) := by decide +kernel
theorem dL_refuses_595 : decode cL_refuses 595 = .ok (.iload 5, 2) := by decide +kernel
theorem dL_refuses_597 : decode cL_refuses 597 = .ok (.ifCond .ne 7, 3) := by decide +kernel
theorem dL_refuses_600 : decode cL_refuses 600 = .ok (.iconst 0, 1) := by decide +kernel
theorem dL_refuses_601 : decode cL_refuses 601 = .ok (.goto 5, 3) := by decide +kernel
theorem dL_refuses_604 : decode cL_refuses 604 = .ok (.iload 9, 2) := by decide +kernel
theorem dL_refuses_606 : decode cL_refuses 606 = .ok (.iconst 5, 1) := by decide +kernel
theorem dL_refuses_607 : decode cL_refuses 607 = .ok (.invokestatic 85, 3) := by decide +kernel
theorem dL_refuses_610 : decode cL_refuses 610 = .ok (.bipush (-72), 2) := by decide +kernel
theorem dL_refuses_612 : decode cL_refuses 612 = .ok (.if_icmp .ne 87, 3) := by decide +kernel
theorem dL_refuses_615 : decode cL_refuses 615 = .ok (.aload_n 0, 1) := by decide +kernel
theorem dL_refuses_616 : decode cL_refuses 616 = .ok (.bipush 11, 2) := by decide +kernel
theorem dL_refuses_618 : decode cL_refuses 618 = .ok (.iconst 5, 1) := by decide +kernel
theorem dL_refuses_619 : decode cL_refuses 619 = .ok (.iload 10, 2) := by decide +kernel
theorem dL_refuses_621 : decode cL_refuses 621 = .ok (.invokestatic 85, 3) := by decide +kernel
theorem dL_refuses_624 : decode cL_refuses 624 = .ok (.bipush (-72), 2) := by decide +kernel
theorem dL_refuses_626 : decode cL_refuses 626 = .ok (.if_icmp .ne 73, 3) := by decide +kernel
theorem dL_refuses_629 : decode cL_refuses 629 = .ok (.aload_n 0, 1) := by decide +kernel
theorem dL_refuses_630 : decode cL_refuses 630 = .ok (.bipush 13, 2) := by decide +kernel
theorem dL_refuses_632 : decode cL_refuses 632 = .ok (.iload 7, 2) := by decide +kernel
theorem dL_refuses_634 : decode cL_refuses 634 = .ok (.iconst 0, 1) := by decide +kernel
theorem dL_refuses_635 : decode cL_refuses 635 = .ok (.invokestatic 85, 3) := by decide +kernel
theorem dL_refuses_638 : decode cL_refuses 638 = .ok (.bipush (-71), 2) := by decide +kernel
theorem dL_refuses_640 : decode cL_refuses 640 = .ok (.if_icmp .ne 59, 3) := by decide +kernel
theorem dL_refuses_643 : decode cL_refuses 643 = .ok (.aload_n 0, 1) := by decide +kernel
theorem dL_refuses_644 : decode cL_refuses 644 = .ok (.bipush 13, 2) := by decide +kernel
theorem dL_refuses_646 : decode cL_refuses 646 = .ok (.iconst 0, 1) := by decide +kernel
theorem dL_refuses_647 : decode cL_refuses 647 = .ok (.iload 5, 2) := by decide +kernel
theorem dL_refuses_649 : decode cL_refuses 649 = .ok (.iconst 1, 1) := by decide +kernel
theorem dL_refuses_650 : decode cL_refuses 650 = .ok (.if_icmp .ne 7, 3) := by decide +kernel
theorem dL_refuses_653 : decode cL_refuses 653 = .ok (.iconst 5, 1) := by decide +kernel
theorem dL_refuses_654 : decode cL_refuses 654 = .ok (.goto 5, 3) := by decide +kernel
theorem dL_refuses_657 : decode cL_refuses 657 = .ok (.iload 6, 2) := by decide +kernel
theorem dL_refuses_659 : decode cL_refuses 659 = .ok (.invokestatic 85, 3) := by decide +kernel
theorem dL_refuses_662 : decode cL_refuses 662 = .ok (.bipush (-71), 2) := by decide +kernel
theorem dL_refuses_664 : decode cL_refuses 664 = .ok (.if_icmp .ne 35, 3) := by decide +kernel
theorem dL_refuses_667 : decode cL_refuses 667 = .ok (.aload_n 0, 1) := by decide +kernel
theorem dL_refuses_668 : decode cL_refuses 668 = .ok (.bipush 14, 2) := by decide +kernel
theorem dL_refuses_670 : decode cL_refuses 670 = .ok (.iload 7, 2) := by decide +kernel
theorem dL_refuses_672 : decode cL_refuses 672 = .ok (.iconst 0, 1) := by decide +kernel
theorem dL_refuses_673 : decode cL_refuses 673 = .ok (.invokestatic 85, 3) := by decide +kernel
theorem dL_refuses_676 : decode cL_refuses 676 = .ok (.bipush (-71), 2) := by decide +kernel
theorem dL_refuses_678 : decode cL_refuses 678 = .ok (.if_icmp .ne 21, 3) := by decide +kernel
theorem dL_refuses_681 : decode cL_refuses 681 = .ok (.aload_n 0, 1) := by decide +kernel
theorem dL_refuses_682 : decode cL_refuses 682 = .ok (.bipush 15, 2) := by decide +kernel
theorem dL_refuses_684 : decode cL_refuses 684 = .ok (.iload 7, 2) := by decide +kernel
theorem dL_refuses_686 : decode cL_refuses 686 = .ok (.iconst 0, 1) := by decide +kernel
theorem dL_refuses_687 : decode cL_refuses 687 = .ok (.invokestatic 85, 3) := by decide +kernel
theorem dL_refuses_690 : decode cL_refuses 690 = .ok (.bipush (-71), 2) := by decide +kernel
theorem dL_refuses_692 : decode cL_refuses 692 = .ok (.if_icmp .ne 7, 3) := by decide +kernel
theorem dL_refuses_695 : decode cL_refuses 695 = .ok (.iconst 1, 1) := by decide +kernel
theorem dL_refuses_696 : decode cL_refuses 696 = .ok (.goto 4, 3) := by decide +kernel
theorem dL_refuses_699 : decode cL_refuses 699 = .ok (.iconst 0, 1) := by decide +kernel
theorem dL_refuses_700 : decode cL_refuses 700 = .ok (.istore 11, 2) := by decide +kernel
theorem dL_refuses_702 : decode cL_refuses 702 = .ok (.iload 11, 2) := by decide +kernel
theorem dL_refuses_704 : decode cL_refuses 704 = .ok (.ifCond .ne 5, 3) := by decide +kernel
theorem dL_refuses_707 : decode cL_refuses 707 = .ok (.iconst 0, 1) := by decide +kernel
theorem dL_refuses_708 : decode cL_refuses 708 = .ok (.ireturn, 1) := by decide +kernel
theorem dL_refuses_709 : decode cL_refuses 709 = .ok (.iinc 5 1, 3) := by decide +kernel
theorem dL_refuses_712 : decode cL_refuses 712 = .ok (.goto (-688), 3) := by decide +kernel
theorem dL_refuses_715 : decode cL_refuses 715 = .ok (.aload_n 0, 1) := by decide +kernel
theorem dL_refuses_716 : decode cL_refuses 716 = .ok (.invokevirtual 71, 3) := by decide +kernel
theorem dL_refuses_719 : decode cL_refuses 719 = .ok (.iload_n 1, 1) := by decide +kernel
theorem dL_refuses_720 : decode cL_refuses 720 = .ok (.if_icmp .ne 34, 3) := by decide +kernel
theorem dL_refuses_723 : decode cL_refuses 723 = .ok (.aload_n 0, 1) := by decide +kernel
theorem dL_refuses_724 : decode cL_refuses 724 = .ok (.invokevirtual 74, 3) := by decide +kernel
theorem dL_refuses_727 : decode cL_refuses 727 = .ok (.iload_n 2, 1) := by decide +kernel
theorem dL_refuses_728 : decode cL_refuses 728 = .ok (.if_icmp .ne 26, 3) := by decide +kernel
theorem dL_refuses_731 : decode cL_refuses 731 = .ok (.aload_n 0, 1) := by decide +kernel
theorem dL_refuses_732 : decode cL_refuses 732 = .ok (.bipush 15, 2) := by decide +kernel
theorem dL_refuses_734 : decode cL_refuses 734 = .ok (.invokevirtual 27, 3) := by decide +kernel
theorem dL_refuses_737 : decode cL_refuses 737 = .ok (.iload_n 3, 1) := by decide +kernel
theorem dL_refuses_738 : decode cL_refuses 738 = .ok (.if_icmp .ne 16, 3) := by decide +kernel
theorem dL_refuses_741 : decode cL_refuses 741 = .ok (.aload_n 0, 1) := by decide +kernel
theorem dL_refuses_742 : decode cL_refuses 742 = .ok (.bipush 15, 2) := by decide +kernel
theorem dL_refuses_744 : decode cL_refuses 744 = .ok (.invokevirtual 23, 3) := by decide +kernel
theorem dL_refuses_747 : decode cL_refuses 747 = .ok (.ifCond .ne 7, 3) := by decide +kernel
theorem dL_refuses_750 : decode cL_refuses 750 = .ok (.iconst 1, 1) := by decide +kernel
theorem dL_refuses_751 : decode cL_refuses 751 = .ok (.goto 4, 3) := by decide +kernel
theorem dL_refuses_754 : decode cL_refuses 754 = .ok (.iconst 0, 1) := by decide +kernel
theorem dL_refuses_755 : decode cL_refuses 755 = .ok (.ireturn, 1) := by decide +kernel
