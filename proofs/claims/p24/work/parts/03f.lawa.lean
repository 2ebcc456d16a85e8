set_option maxRecDepth 20000 in
theorem ggL_act_X6_open : GoodIn wsL_act wsX6_open := goodIn_ca (goodIn_ca (goodIn_r _ [11, 12, 13, 14, 15, 16, 17, 18, 19, 10, 20, 21, 22, 23, 24, 25, 26, 27, 28, 29, 30, 31, 32, 33, 34, 35, 36, 37, 38, 39, 40, 41, 42, 43, 44, 45, 46, 47, 48, 49, 50, 51, 52, 53, 54, 55, 56, 57, 58, 59, 60, 61, 62, 63, 64, 65, 66, 67, 68, 69, 70, 71, 72, 73, 74, 75, 76, 77, 78, 79, 80, 81, 82, 83, 84, 85, 86, 87, 88, 89, 90, 91, 92, 93, 94, 95, 96, 97, 98, 99, 100, 101, 102, 103, 104, 105, 106, 385, 386, 387, 388, 389, 390, 391, 392, 393, 394, 395, 396] (by decide +kernel) (by decide +kernel)) (goodIn_sub (fun _ h => List.mem_cons_of_mem _ (List.mem_append_left _ (List.mem_append_left _ (List.mem_append_right _ h)))) (by decide +kernel))) (goodIn_sub (fun _ h => List.mem_cons_of_mem _ (List.mem_append_left _ (List.mem_append_right _ h))) (by decide +kernel))
set_option maxRecDepth 20000 in
theorem gL_act_X6_open : GoodIn wsL_act (wsV RL 7 RX6 yX6_open wsX6_open) := goodIn_app (goodIn_of _ (by decide +kernel)) ggL_act_X6_open
set_option maxRecDepth 20000 in
theorem ggL_act_X6_setWeight : GoodIn wsL_act wsX6_setWeight := goodIn_ca (goodIn_ca (goodIn_ca (goodIn_r _ [110, 12, 13, 111, 112, 113, 114, 10, 115, 116, 117, 118, 119, 120, 18, 19, 20, 21, 22, 121, 122, 123, 124, 125, 126, 127, 128, 129, 130, 131, 385, 386, 387, 388, 389, 390, 397, 398, 399] (by decide +kernel) (by decide +kernel)) (goodIn_sub (fun _ h => List.mem_cons_of_mem _ (List.mem_append_left _ (List.mem_append_left _ (List.mem_append_right _ h)))) (by decide +kernel))) (goodIn_sub (fun _ h => List.mem_cons_of_mem _ (List.mem_append_right _ h)) (by decide +kernel))) (goodIn_sub (fun _ h => List.mem_cons_of_mem _ (List.mem_append_left _ (List.mem_append_right _ h))) (by decide +kernel))
set_option maxRecDepth 20000 in
theorem gL_act_X6_setWeight : GoodIn wsL_act (wsV RL 13 RX6 yX6_setWeight wsX6_setWeight) := goodIn_app (goodIn_of _ (by decide +kernel)) ggL_act_X6_setWeight
set_option maxRecDepth 20000 in
theorem ggL_act_X6_pass : GoodIn wsL_act wsX6_pass := goodIn_ca (goodIn_r _ [135, 136, 18, 19, 10, 20, 21, 22, 385, 386, 387, 388, 389, 390] (by decide +kernel) (by decide +kernel)) (goodIn_sub (fun _ h => List.mem_cons_of_mem _ (List.mem_append_left _ (List.mem_append_right _ h))) (by decide +kernel))
set_option maxRecDepth 20000 in
theorem gL_act_X6_pass : GoodIn wsL_act (wsV RL 17 RX6 yX6_pass wsX6_pass) := goodIn_app (goodIn_of _ (by decide +kernel)) ggL_act_X6_pass
set_option maxRecDepth 20000 in
theorem ggL_act_X6_change : GoodIn wsL_act wsX6_change := goodIn_ca (goodIn_ca (goodIn_ca (goodIn_r _ [140, 141, 142, 143, 144, 10, 145, 116, 117, 14, 146, 23, 24, 25, 26, 27, 28, 147, 148, 149, 150, 151, 152, 153, 154, 155, 156, 157, 158, 159, 160, 161, 162, 44, 113, 114, 115, 118, 119, 120, 121, 122, 123, 18, 19, 20, 21, 22, 163, 164, 165, 166, 12, 13, 167, 168, 169, 170, 136, 171, 172, 173, 174, 175, 33, 34, 176, 177, 178, 179, 180, 181, 182, 183, 55, 56, 57, 58, 59, 60, 61, 62, 63, 64, 65, 66, 67, 68, 69, 70, 71, 72, 43, 73, 74, 75, 76, 77, 78, 79, 80, 81, 82, 83, 84, 85, 86, 87, 88, 89, 90, 91, 92, 93, 94, 95, 96, 97, 98, 99, 100, 101, 102, 103, 104, 105, 106, 184, 185, 186, 17, 187, 37, 188, 189, 190, 191, 192, 193, 194, 195, 196, 197, 198, 199, 200, 385, 386, 387, 388, 389, 390, 394, 395, 396, 400, 401, 402, 403, 404, 405, 406, 407, 391, 392, 393] (by decide +kernel) (by decide +kernel)) (goodIn_sub (fun _ h => List.mem_cons_of_mem _ (List.mem_append_right _ h)) (by decide +kernel))) (goodIn_sub (fun _ h => List.mem_cons_of_mem _ (List.mem_append_left _ (List.mem_append_right _ h))) (by decide +kernel))) (goodIn_sub (fun _ h => List.mem_cons_of_mem _ (List.mem_append_left _ (List.mem_append_left _ (List.mem_append_right _ h)))) (by decide +kernel))
set_option maxRecDepth 20000 in
theorem gL_act_X6_change : GoodIn wsL_act (wsV RL 20 RX6 yX6_change wsX6_change) := goodIn_app (goodIn_of _ (by decide +kernel)) ggL_act_X6_change
set_option maxRecDepth 20000 in
theorem ggL_act_X6_add : GoodIn wsL_act wsX6_add := goodIn_ca (goodIn_ca (goodIn_ca (goodIn_r _ [204, 205, 142, 143, 144, 10, 145, 116, 117, 14, 146, 23, 24, 25, 26, 27, 28, 147, 148, 149, 150, 151, 152, 153, 154, 155, 156, 157, 158, 159, 160, 161, 162, 44, 113, 114, 115, 118, 119, 120, 121, 122, 123, 18, 19, 20, 21, 22, 163, 164, 165, 166, 12, 13, 167, 168, 169, 170, 136, 171, 172, 173, 174, 175, 33, 34, 176, 177, 178, 179, 180, 181, 182, 183, 55, 56, 57, 58, 59, 60, 61, 62, 63, 64, 65, 66, 67, 68, 69, 70, 71, 72, 43, 73, 74, 75, 76, 77, 78, 79, 80, 81, 82, 83, 84, 85, 86, 87, 88, 89, 90, 91, 92, 93, 94, 95, 96, 97, 98, 99, 100, 101, 102, 103, 104, 105, 106, 184, 185, 186, 17, 187, 37, 188, 189, 190, 191, 192, 193, 194, 195, 196, 197, 198, 199, 200, 385, 386, 387, 388, 389, 390, 394, 395, 396, 400, 401, 402, 403, 404, 405, 406, 407, 391, 392, 393] (by decide +kernel) (by decide +kernel)) (goodIn_sub (fun _ h => List.mem_cons_of_mem _ (List.mem_append_right _ h)) (by decide +kernel))) (goodIn_sub (fun _ h => List.mem_cons_of_mem _ (List.mem_append_left _ (List.mem_append_right _ h))) (by decide +kernel))) (goodIn_sub (fun _ h => List.mem_cons_of_mem _ (List.mem_append_left _ (List.mem_append_left _ (List.mem_append_right _ h)))) (by decide +kernel))
set_option maxRecDepth 20000 in
theorem gL_act_X6_add : GoodIn wsL_act (wsV RL 24 RX6 yX6_add wsX6_add) := goodIn_app (goodIn_of _ (by decide +kernel)) ggL_act_X6_add
set_option maxRecDepth 20000 in
theorem ggL_act_X6_cancel : GoodIn wsL_act wsX6_cancel := goodIn_ca (goodIn_ca (goodIn_ca (goodIn_r _ [209, 210, 142, 143, 144, 10, 145, 116, 117, 14, 146, 23, 24, 25, 26, 27, 28, 147, 148, 149, 150, 151, 152, 153, 154, 155, 156, 157, 158, 159, 160, 161, 162, 44, 121, 122, 123, 18, 19, 20, 21, 22, 163, 164, 165, 166, 12, 13, 167, 168, 169, 170, 136, 171, 172, 173, 174, 175, 33, 34, 176, 177, 178, 179, 180, 181, 182, 183, 55, 56, 57, 58, 59, 60, 61, 62, 63, 64, 65, 66, 67, 68, 69, 70, 71, 72, 43, 73, 74, 75, 76, 77, 78, 79, 80, 81, 82, 83, 84, 85, 86, 87, 88, 89, 90, 91, 92, 93, 94, 95, 96, 97, 98, 99, 100, 101, 102, 103, 104, 105, 106, 184, 185, 186, 17, 187, 37, 188, 189, 190, 191, 192, 193, 194, 195, 196, 197, 198, 199, 200, 385, 386, 387, 388, 389, 390, 394, 395, 396, 400, 401, 402, 403, 404, 405, 406, 407, 391, 392, 393] (by decide +kernel) (by decide +kernel)) (goodIn_sub (fun _ h => List.mem_cons_of_mem _ (List.mem_append_right _ h)) (by decide +kernel))) (goodIn_sub (fun _ h => List.mem_cons_of_mem _ (List.mem_append_left _ (List.mem_append_right _ h))) (by decide +kernel))) (goodIn_sub (fun _ h => List.mem_cons_of_mem _ (List.mem_append_left _ (List.mem_append_left _ (List.mem_append_right _ h)))) (by decide +kernel))
set_option maxRecDepth 20000 in
theorem gL_act_X6_cancel : GoodIn wsL_act (wsV RL 27 RX6 yX6_cancel wsX6_cancel) := goodIn_app (goodIn_of _ (by decide +kernel)) ggL_act_X6_cancel
set_option maxRecDepth 20000 in
theorem ggL_act_X6_reinstate : GoodIn wsL_act wsX6_reinstate := goodIn_ca (goodIn_ca (goodIn_ca (goodIn_r _ [214, 215, 142, 143, 144, 10, 145, 116, 117, 14, 146, 23, 24, 25, 26, 27, 28, 147, 148, 149, 150, 151, 152, 153, 154, 155, 156, 157, 158, 159, 160, 161, 162, 44, 121, 122, 123, 18, 19, 20, 21, 22, 163, 164, 165, 166, 12, 13, 167, 168, 169, 170, 136, 171, 172, 173, 174, 175, 33, 34, 176, 177, 178, 179, 180, 181, 182, 183, 55, 56, 57, 58, 59, 60, 61, 62, 63, 64, 65, 66, 67, 68, 69, 70, 71, 72, 43, 73, 74, 75, 76, 77, 78, 79, 80, 81, 82, 83, 84, 85, 86, 87, 88, 89, 90, 91, 92, 93, 94, 95, 96, 97, 98, 99, 100, 101, 102, 103, 104, 105, 106, 184, 185, 186, 17, 187, 37, 188, 189, 190, 191, 192, 193, 194, 195, 196, 197, 198, 199, 200, 385, 386, 387, 388, 389, 390, 394, 395, 396, 400, 401, 402, 403, 404, 405, 406, 407, 391, 392, 393] (by decide +kernel) (by decide +kernel)) (goodIn_sub (fun _ h => List.mem_cons_of_mem _ (List.mem_append_right _ h)) (by decide +kernel))) (goodIn_sub (fun _ h => List.mem_cons_of_mem _ (List.mem_append_left _ (List.mem_append_right _ h))) (by decide +kernel))) (goodIn_sub (fun _ h => List.mem_cons_of_mem _ (List.mem_append_left _ (List.mem_append_left _ (List.mem_append_right _ h)))) (by decide +kernel))
set_option maxRecDepth 20000 in
theorem gL_act_X6_reinstate : GoodIn wsL_act (wsV RL 31 RX6 yX6_reinstate wsX6_reinstate) := goodIn_app (goodIn_of _ (by decide +kernel)) ggL_act_X6_reinstate
set_option maxRecDepth 20000 in
theorem ggL_act_X6_takeBack : GoodIn wsL_act wsX6_takeBack := goodIn_ca (goodIn_ca (goodIn_r _ [219, 12, 13, 220, 136, 221, 222, 223, 224, 10, 225, 116, 117, 167, 226, 23, 24, 25, 26, 27, 28, 147, 148, 149, 150, 151, 152, 153, 154, 155, 156, 157, 158, 159, 160, 161, 162, 44, 400, 401, 402, 403, 404, 405, 406, 407, 385, 386, 387, 388, 389, 390, 394, 395, 396] (by decide +kernel) (by decide +kernel)) (goodIn_sub (fun _ h => List.mem_cons_of_mem _ (List.mem_append_left _ (List.mem_append_left _ (List.mem_append_right _ h)))) (by decide +kernel))) (goodIn_sub (fun _ h => List.mem_cons_of_mem _ (List.mem_append_right _ h)) (by decide +kernel))
set_option maxRecDepth 20000 in
theorem gL_act_X6_takeBack : GoodIn wsL_act (wsV RL 34 RX6 yX6_takeBack wsX6_takeBack) := goodIn_app (goodIn_of _ (by decide +kernel)) ggL_act_X6_takeBack
set_option maxRecDepth 20000 in
theorem ggL_act_X6_laidAnew : GoodIn wsL_act wsX6_laidAnew := goodIn_ca (goodIn_r _ [230, 231, 232, 226, 171, 233, 136, 222, 223, 224, 10, 225, 116, 117, 167, 23, 24, 25, 26, 27, 28, 147, 148, 149, 150, 151, 152, 153, 154, 155, 156, 157, 158, 159, 160, 161, 162, 44, 234, 235, 236, 170, 237, 183, 176, 400, 401, 402, 403, 404, 405, 406, 407, 391, 392, 393, 385, 386, 387, 388, 389, 390, 394, 395, 396] (by decide +kernel) (by decide +kernel)) (goodIn_sub (fun _ h => List.mem_cons_of_mem _ (List.mem_append_right _ h)) (by decide +kernel))
set_option maxRecDepth 20000 in
theorem gL_act_X6_laidAnew : GoodIn wsL_act (wsV RL 37 RX6 yX6_laidAnew wsX6_laidAnew) := goodIn_app (goodIn_of _ (by decide +kernel)) ggL_act_X6_laidAnew
set_option maxRecDepth 20000 in
theorem ggL_act_X6_value : GoodIn wsL_act wsX6_value := goodIn_ca (goodIn_ca (goodIn_r _ [241, 242, 142, 143, 144, 10, 145, 116, 117, 14, 146, 23, 24, 25, 26, 27, 28, 147, 148, 149, 150, 151, 152, 153, 154, 155, 156, 157, 158, 159, 160, 161, 162, 44, 113, 114, 115, 118, 119, 120, 121, 122, 123, 18, 19, 20, 21, 22, 243, 244, 245, 246, 136, 247, 248, 249, 250, 251, 252, 253, 254, 255, 256, 257, 258, 259, 89, 260, 261, 262, 263, 264, 232, 265, 74, 75, 76, 226, 233, 234, 235, 236, 170, 237, 183, 176, 266, 267, 268, 269, 270, 271, 272, 273, 274, 275, 276, 101, 102, 277, 278, 279, 280, 281, 282, 283, 284, 285, 286, 385, 386, 387, 388, 389, 390, 394, 395, 396, 408, 409, 391, 392, 393, 400, 401, 402, 403, 404, 405, 406, 407] (by decide +kernel) (by decide +kernel)) (goodIn_sub (fun _ h => List.mem_cons_of_mem _ (List.mem_append_right _ h)) (by decide +kernel))) (goodIn_sub (fun _ h => List.mem_cons_of_mem _ (List.mem_append_left _ (List.mem_append_right _ h))) (by decide +kernel))
set_option maxRecDepth 20000 in
theorem gL_act_X6_value : GoodIn wsL_act (wsV RL 40 RX6 yX6_value wsX6_value) := goodIn_app (goodIn_of _ (by decide +kernel)) ggL_act_X6_value
set_option maxRecDepth 20000 in
theorem ggL_act_X6_isCovered : GoodIn wsL_act wsX6_isCovered := goodIn_ca (goodIn_ca (goodIn_r _ [290, 242, 291, 142, 143, 144, 10, 145, 116, 117, 14, 146, 23, 24, 25, 26, 27, 28, 147, 148, 149, 150, 151, 152, 153, 154, 155, 156, 157, 158, 159, 160, 161, 162, 44, 121, 122, 123, 18, 19, 20, 21, 22, 243, 244, 245, 246, 136, 247, 248, 249, 250, 251, 252, 253, 254, 255, 256, 257, 258, 259, 89, 260, 261, 262, 263, 264, 232, 265, 74, 75, 76, 226, 233, 234, 235, 236, 170, 237, 183, 176, 266, 267, 268, 269, 270, 271, 272, 273, 274, 275, 276, 101, 102, 277, 278, 279, 280, 281, 119, 120, 282, 283, 284, 285, 385, 386, 387, 388, 389, 390, 408, 409, 394, 395, 396, 391, 392, 393, 400, 401, 402, 403, 404, 405, 406, 407] (by decide +kernel) (by decide +kernel)) (goodIn_sub (fun _ h => List.mem_cons_of_mem _ (List.mem_append_right _ h)) (by decide +kernel))) (goodIn_sub (fun _ h => List.mem_cons_of_mem _ (List.mem_append_left _ (List.mem_append_right _ h))) (by decide +kernel))
set_option maxRecDepth 20000 in
theorem gL_act_X6_isCovered : GoodIn wsL_act (wsV RL 43 RX6 yX6_isCovered wsX6_isCovered) := goodIn_app (goodIn_of _ (by decide +kernel)) ggL_act_X6_isCovered
set_option maxRecDepth 20000 in
theorem ggL_act_X6_rate : GoodIn wsL_act wsX6_rate := goodIn_ca (goodIn_ca (goodIn_r _ [295, 142, 143, 144, 10, 145, 116, 117, 14, 146, 23, 24, 25, 26, 27, 28, 147, 148, 149, 150, 151, 152, 153, 154, 155, 156, 157, 158, 159, 160, 161, 162, 44, 121, 122, 123, 18, 19, 20, 21, 22, 243, 244, 245, 246, 136, 247, 248, 249, 250, 242, 251, 252, 253, 254, 255, 256, 257, 258, 259, 89, 260, 261, 262, 263, 264, 232, 265, 74, 75, 76, 226, 233, 234, 235, 236, 170, 237, 183, 176, 266, 267, 268, 269, 270, 271, 272, 273, 274, 275, 276, 101, 102, 277, 278, 279, 280, 281, 119, 120, 282, 283, 284, 285, 296, 297, 298, 299, 291, 300, 111, 286, 301, 302, 303, 127, 304, 130, 305, 306, 385, 386, 387, 388, 389, 390, 394, 395, 396, 408, 409, 391, 392, 393, 400, 401, 402, 403, 404, 405, 406, 407, 397, 398, 399] (by decide +kernel) (by decide +kernel)) (goodIn_sub (fun _ h => List.mem_cons_of_mem _ (List.mem_append_right _ h)) (by decide +kernel))) (goodIn_sub (fun _ h => List.mem_cons_of_mem _ (List.mem_append_left _ (List.mem_append_right _ h))) (by decide +kernel))
set_option maxRecDepth 20000 in
theorem gL_act_X6_rate : GoodIn wsL_act (wsV RL 47 RX6 yX6_rate wsX6_rate) := goodIn_app (goodIn_of _ (by decide +kernel)) ggL_act_X6_rate
set_option maxRecDepth 20000 in
theorem ggL_act_X6_segments : GoodIn wsL_act wsX6_segments := goodIn_ca (goodIn_ca (goodIn_r _ [310, 311, 142, 143, 144, 10, 145, 116, 117, 14, 146, 23, 24, 25, 26, 27, 28, 147, 148, 149, 150, 151, 152, 153, 154, 155, 156, 157, 158, 159, 160, 161, 162, 44, 243, 244, 245, 246, 136, 18, 19, 20, 21, 22, 312, 313, 314, 315, 242, 251, 252, 253, 254, 255, 256, 257, 258, 259, 89, 260, 261, 262, 263, 264, 232, 265, 74, 75, 76, 226, 233, 234, 235, 236, 170, 237, 183, 176, 266, 267, 268, 269, 270, 271, 272, 273, 274, 275, 276, 101, 102, 277, 278, 279, 280, 281, 119, 120, 282, 283, 284, 285, 296, 297, 298, 299, 291, 300, 111, 286, 301, 302, 303, 127, 304, 130, 305, 306, 316, 317, 318, 319, 320, 321, 322, 323, 324, 325, 326, 327, 328, 329, 330, 385, 386, 387, 388, 389, 390, 394, 395, 396, 408, 409, 391, 392, 393, 400, 401, 402, 403, 404, 405, 406, 407, 397, 398, 399, 410, 411] (by decide +kernel) (by decide +kernel)) (goodIn_sub (fun _ h => List.mem_cons_of_mem _ (List.mem_append_right _ h)) (by decide +kernel))) (goodIn_sub (fun _ h => List.mem_cons_of_mem _ (List.mem_append_left _ (List.mem_append_right _ h))) (by decide +kernel))
set_option maxRecDepth 20000 in
theorem gL_act_X6_segments : GoodIn wsL_act (wsV RL 50 RX6 yX6_segments wsX6_segments) := goodIn_app (goodIn_of _ (by decide +kernel)) ggL_act_X6_segments
set_option maxRecDepth 20000 in
theorem ggL_act_X6_segmentStart : GoodIn wsL_act wsX6_segmentStart := goodIn_ca (goodIn_ca (goodIn_r _ [334, 243, 244, 245, 10, 246, 136, 18, 19, 20, 21, 22, 335, 336, 337, 338, 116, 117, 311, 142, 143, 144, 145, 14, 146, 23, 24, 25, 26, 27, 28, 147, 148, 149, 150, 151, 152, 153, 154, 155, 156, 157, 158, 159, 160, 161, 162, 44, 312, 313, 314, 315, 242, 251, 252, 253, 254, 255, 256, 257, 258, 259, 89, 260, 261, 262, 263, 264, 232, 265, 74, 75, 76, 226, 233, 234, 235, 236, 170, 237, 183, 176, 266, 267, 268, 269, 270, 271, 272, 273, 274, 275, 276, 101, 102, 277, 278, 279, 280, 281, 119, 120, 282, 283, 284, 285, 296, 297, 298, 299, 291, 300, 111, 286, 301, 302, 303, 127, 304, 130, 305, 306, 316, 317, 318, 319, 320, 321, 322, 339, 340, 341, 342, 327, 328, 329, 330, 385, 386, 387, 388, 389, 390, 394, 395, 396, 408, 409, 391, 392, 393, 400, 401, 402, 403, 404, 405, 406, 407, 397, 398, 399, 410, 411] (by decide +kernel) (by decide +kernel)) (goodIn_sub (fun _ h => List.mem_cons_of_mem _ (List.mem_append_left _ (List.mem_append_right _ h))) (by decide +kernel))) (goodIn_sub (fun _ h => List.mem_cons_of_mem _ (List.mem_append_right _ h)) (by decide +kernel))
set_option maxRecDepth 20000 in
theorem gL_act_X6_segmentStart : GoodIn wsL_act (wsV RL 53 RX6 yX6_segmentStart wsX6_segmentStart) := goodIn_app (goodIn_of _ (by decide +kernel)) ggL_act_X6_segmentStart
set_option maxRecDepth 20000 in
theorem ggL_act_X6_segmentPremium : GoodIn wsL_act wsX6_segmentPremium := goodIn_ca (goodIn_ca (goodIn_r _ [346, 311, 243, 244, 245, 10, 246, 136, 18, 19, 20, 21, 22, 335, 336, 337, 338, 116, 117, 142, 143, 144, 145, 14, 146, 23, 24, 25, 26, 27, 28, 147, 148, 149, 150, 151, 152, 153, 154, 155, 156, 157, 158, 159, 160, 161, 162, 44, 312, 313, 314, 315, 242, 251, 252, 253, 254, 255, 256, 257, 258, 259, 89, 260, 261, 262, 263, 264, 232, 265, 74, 75, 76, 226, 233, 234, 235, 236, 170, 237, 183, 176, 266, 267, 268, 269, 270, 271, 272, 273, 274, 275, 276, 101, 102, 277, 278, 279, 280, 281, 119, 120, 282, 283, 284, 285, 296, 297, 298, 299, 291, 300, 111, 286, 301, 302, 303, 127, 304, 130, 305, 306, 316, 317, 318, 319, 320, 321, 322, 339, 340, 341, 342, 327, 328, 329, 330, 347, 348, 349, 350, 351, 352, 353, 354, 355, 356, 357, 358, 385, 386, 387, 388, 389, 390, 394, 395, 396, 408, 409, 391, 392, 393, 400, 401, 402, 403, 404, 405, 406, 407, 397, 398, 399, 410, 411] (by decide +kernel) (by decide +kernel)) (goodIn_sub (fun _ h => List.mem_cons_of_mem _ (List.mem_append_left _ (List.mem_append_right _ h))) (by decide +kernel))) (goodIn_sub (fun _ h => List.mem_cons_of_mem _ (List.mem_append_right _ h)) (by decide +kernel))
set_option maxRecDepth 20000 in
theorem gL_act_X6_segmentPremium : GoodIn wsL_act (wsV RL 56 RX6 yX6_segmentPremium wsX6_segmentPremium) := goodIn_app (goodIn_of _ (by decide +kernel)) ggL_act_X6_segmentPremium
set_option maxRecDepth 20000 in
theorem ggL_act_X6_premium : GoodIn wsL_act wsX6_premium := goodIn_ca (goodIn_ca (goodIn_r _ [362, 142, 143, 144, 10, 145, 116, 117, 14, 146, 23, 24, 25, 26, 27, 28, 147, 148, 149, 150, 151, 152, 153, 154, 155, 156, 157, 158, 159, 160, 161, 162, 44, 243, 244, 245, 246, 136, 18, 19, 20, 21, 22, 363, 364, 365, 366, 311, 312, 313, 314, 315, 242, 251, 252, 253, 254, 255, 256, 257, 258, 259, 89, 260, 261, 262, 263, 264, 232, 265, 74, 75, 76, 226, 233, 234, 235, 236, 170, 237, 183, 176, 266, 267, 268, 269, 270, 271, 272, 273, 274, 275, 276, 101, 102, 277, 278, 279, 280, 281, 119, 120, 282, 283, 284, 285, 296, 297, 298, 299, 291, 300, 111, 286, 301, 302, 303, 127, 304, 130, 305, 306, 316, 317, 318, 319, 320, 321, 322, 367, 368, 369, 370, 327, 328, 329, 330, 371, 348, 349, 350, 351, 352, 353, 354, 355, 356, 357, 358, 385, 386, 387, 388, 389, 390, 394, 395, 396, 408, 409, 391, 392, 393, 400, 401, 402, 403, 404, 405, 406, 407, 397, 398, 399, 410, 411] (by decide +kernel) (by decide +kernel)) (goodIn_sub (fun _ h => List.mem_cons_of_mem _ (List.mem_append_right _ h)) (by decide +kernel))) (goodIn_sub (fun _ h => List.mem_cons_of_mem _ (List.mem_append_left _ (List.mem_append_right _ h))) (by decide +kernel))
set_option maxRecDepth 20000 in
theorem gL_act_X6_premium : GoodIn wsL_act (wsV RL 59 RX6 yX6_premium wsX6_premium) := goodIn_app (goodIn_of _ (by decide +kernel)) ggL_act_X6_premium
set_option maxRecDepth 20000 in
theorem ggL_act_X6_premiumByDays : GoodIn wsL_act wsX6_premiumByDays := goodIn_ca (goodIn_ca (goodIn_r _ [375, 142, 143, 144, 10, 145, 116, 117, 14, 146, 23, 24, 25, 26, 27, 28, 147, 148, 149, 150, 151, 152, 153, 154, 155, 156, 157, 158, 159, 160, 161, 162, 44, 243, 244, 245, 246, 136, 18, 19, 20, 21, 22, 247, 248, 249, 250, 242, 251, 252, 253, 254, 255, 256, 257, 258, 259, 89, 260, 261, 262, 263, 264, 232, 265, 74, 75, 76, 226, 233, 234, 235, 236, 170, 237, 183, 176, 266, 267, 268, 269, 270, 271, 272, 273, 274, 275, 276, 101, 102, 277, 278, 279, 280, 281, 119, 120, 282, 283, 284, 285, 296, 297, 298, 299, 291, 300, 111, 286, 301, 302, 303, 127, 304, 130, 305, 306, 385, 386, 387, 388, 389, 390, 394, 395, 396, 408, 409, 391, 392, 393, 400, 401, 402, 403, 404, 405, 406, 407, 397, 398, 399] (by decide +kernel) (by decide +kernel)) (goodIn_sub (fun _ h => List.mem_cons_of_mem _ (List.mem_append_right _ h)) (by decide +kernel))) (goodIn_sub (fun _ h => List.mem_cons_of_mem _ (List.mem_append_left _ (List.mem_append_right _ h))) (by decide +kernel))
set_option maxRecDepth 20000 in
theorem gL_act_X6_premiumByDays : GoodIn wsL_act (wsV RL 62 RX6 yX6_premiumByDays wsX6_premiumByDays) := goodIn_app (goodIn_of _ (by decide +kernel)) ggL_act_X6_premiumByDays
set_option maxRecDepth 20000 in
theorem ggL_act_X6_bill : GoodIn wsL_act wsX6_bill := goodIn_ca (goodIn_r _ [379, 136, 380, 142, 143, 144, 10, 145, 116, 117, 14, 146, 23, 24, 25, 26, 27, 28, 147, 148, 149, 150, 151, 152, 153, 154, 155, 156, 157, 158, 159, 160, 161, 162, 44, 363, 364, 365, 366, 311, 312, 313, 314, 315, 242, 251, 252, 253, 254, 255, 256, 257, 258, 259, 89, 260, 261, 262, 263, 264, 232, 265, 74, 75, 76, 226, 233, 234, 235, 236, 170, 237, 183, 176, 266, 267, 268, 269, 270, 271, 272, 273, 274, 275, 276, 101, 102, 277, 278, 279, 280, 281, 119, 120, 282, 283, 284, 285, 296, 297, 298, 299, 291, 300, 111, 286, 301, 302, 303, 127, 304, 130, 305, 306, 316, 317, 318, 319, 320, 321, 322, 367, 368, 369, 370, 327, 328, 329, 330, 371, 348, 349, 350, 351, 352, 353, 354, 355, 356, 357, 358, 385, 386, 387, 388, 389, 390, 391, 392, 393, 394, 395, 396, 408, 409, 400, 401, 402, 403, 404, 405, 406, 407, 397, 398, 399, 410, 411] (by decide +kernel) (by decide +kernel)) (goodIn_sub (fun _ h => List.mem_cons_of_mem _ (List.mem_append_right _ h)) (by decide +kernel))
set_option maxRecDepth 20000 in
theorem gL_act_X6_bill : GoodIn wsL_act (wsV RL 65 RX6 yX6_bill wsX6_bill) := goodIn_app (goodIn_of _ (by decide +kernel)) ggL_act_X6_bill
set_option maxRecDepth 20000 in
theorem ggL_act_X6_billed : GoodIn wsL_act wsX6_billed := goodIn_ca (goodIn_r _ [384, 380, 142, 143, 144, 10, 145, 116, 117, 14, 146, 23, 24, 25, 26, 27, 28, 147, 148, 149, 150, 151, 152, 153, 154, 155, 156, 157, 158, 159, 160, 161, 162, 44, 391, 392, 393, 385, 386, 387, 388, 389, 390, 394, 395, 396] (by decide +kernel) (by decide +kernel)) (goodIn_sub (fun _ h => List.mem_cons_of_mem _ (List.mem_append_right _ h)) (by decide +kernel))
set_option maxRecDepth 20000 in
theorem gL_act_X6_billed : GoodIn wsL_act (wsV RL 68 RX6 yX6_billed wsX6_billed) := goodIn_app (goodIn_of _ (by decide +kernel)) ggL_act_X6_billed
theorem dL_act_0 : decode cL_act 0 = .ok (.iload_n 1, 1) := by decide +kernel
theorem dL_act_1 : decode cL_act 1 = .ok (.ifCond .ne 11, 3) := by decide +kernel
theorem dL_act_4 : decode cL_act 4 = .ok (.aload_n 0, 1) := by decide +kernel
theorem dL_act_5 : decode cL_act 5 = .ok (.iload_n 2, 1) := by decide +kernel
theorem dL_act_6 : decode cL_act 6 = .ok (.invokevirtual 7, 3) := by decide +kernel
theorem dL_act_9 : decode cL_act 9 = .ok (.goto 284, 3) := by decide +kernel
theorem dL_act_12 : decode cL_act 12 = .ok (.iload_n 1, 1) := by decide +kernel
theorem dL_act_13 : decode cL_act 13 = .ok (.iconst 1, 1) := by decide +kernel
theorem dL_act_14 : decode cL_act 14 = .ok (.if_icmp .ne 14, 3) := by decide +kernel
theorem dL_act_17 : decode cL_act 17 = .ok (.aload_n 0, 1) := by decide +kernel
theorem dL_act_18 : decode cL_act 18 = .ok (.iload_n 2, 1) := by decide +kernel
theorem dL_act_19 : decode cL_act 19 = .ok (.iload_n 3, 1) := by decide +kernel
theorem dL_act_20 : decode cL_act 20 = .ok (.iload 4, 2) := by decide +kernel
theorem dL_act_22 : decode cL_act 22 = .ok (.invokevirtual 13, 3) := by decide +kernel
theorem dL_act_25 : decode cL_act 25 = .ok (.goto 268, 3) := by decide +kernel
theorem dL_act_28 : decode cL_act 28 = .ok (.iload_n 1, 1) := by decide +kernel
theorem dL_act_29 : decode cL_act 29 = .ok (.iconst 2, 1) := by decide +kernel
theorem dL_act_30 : decode cL_act 30 = .ok (.if_icmp .ne 11, 3) := by decide +kernel
theorem dL_act_33 : decode cL_act 33 = .ok (.aload_n 0, 1) := by decide +kernel
theorem dL_act_34 : decode cL_act 34 = .ok (.iload_n 2, 1) := by decide +kernel
theorem dL_act_35 : decode cL_act 35 = .ok (.invokevirtual 17, 3) := by decide +kernel
theorem dL_act_38 : decode cL_act 38 = .ok (.goto 255, 3) := by decide +kernel
theorem dL_act_41 : decode cL_act 41 = .ok (.iload_n 1, 1) := by decide +kernel
theorem dL_act_42 : decode cL_act 42 = .ok (.iconst 3, 1) := by decide +kernel
theorem dL_act_43 : decode cL_act 43 = .ok (.if_icmp .ne 16, 3) := by decide +kernel
theorem dL_act_46 : decode cL_act 46 = .ok (.aload_n 0, 1) := by decide +kernel
theorem dL_act_47 : decode cL_act 47 = .ok (.iload_n 2, 1) := by decide +kernel
theorem dL_act_48 : decode cL_act 48 = .ok (.iload_n 3, 1) := by decide +kernel
theorem dL_act_49 : decode cL_act 49 = .ok (.iload 4, 2) := by decide +kernel
theorem dL_act_51 : decode cL_act 51 = .ok (.iload 5, 2) := by decide +kernel
theorem dL_act_53 : decode cL_act 53 = .ok (.invokevirtual 20, 3) := by decide +kernel
theorem dL_act_56 : decode cL_act 56 = .ok (.goto 237, 3) := by decide +kernel
theorem dL_act_59 : decode cL_act 59 = .ok (.iload_n 1, 1) := by decide +kernel
theorem dL_act_60 : decode cL_act 60 = .ok (.iconst 4, 1) := by decide +kernel
theorem dL_act_61 : decode cL_act 61 = .ok (.if_icmp .ne 16, 3) := by decide +kernel
theorem dL_act_64 : decode cL_act 64 = .ok (.aload_n 0, 1) := by decide +kernel
theorem dL_act_65 : decode cL_act 65 = .ok (.iload_n 2, 1) := by decide +kernel
theorem dL_act_66 : decode cL_act 66 = .ok (.iload_n 3, 1) := by decide +kernel
theorem dL_act_67 : decode cL_act 67 = .ok (.iload 4, 2) := by decide +kernel
theorem dL_act_69 : decode cL_act 69 = .ok (.iload 5, 2) := by decide +kernel
theorem dL_act_71 : decode cL_act 71 = .ok (.invokevirtual 24, 3) := by decide +kernel
theorem dL_act_74 : decode cL_act 74 = .ok (.goto 219, 3) := by decide +kernel
theorem dL_act_77 : decode cL_act 77 = .ok (.iload_n 1, 1) := by decide +kernel
theorem dL_act_78 : decode cL_act 78 = .ok (.iconst 5, 1) := by decide +kernel
theorem dL_act_79 : decode cL_act 79 = .ok (.if_icmp .ne 12, 3) := by decide +kernel
theorem dL_act_82 : decode cL_act 82 = .ok (.aload_n 0, 1) := by decide +kernel
theorem dL_act_83 : decode cL_act 83 = .ok (.iload_n 2, 1) := by decide +kernel
theorem dL_act_84 : decode cL_act 84 = .ok (.iload_n 3, 1) := by decide +kernel
theorem dL_act_85 : decode cL_act 85 = .ok (.invokevirtual 27, 3) := by decide +kernel
theorem dL_act_88 : decode cL_act 88 = .ok (.goto 205, 3) := by decide +kernel
theorem dL_act_91 : decode cL_act 91 = .ok (.iload_n 1, 1) := by decide +kernel
theorem dL_act_92 : decode cL_act 92 = .ok (.bipush 6, 2) := by decide +kernel
theorem dL_act_94 : decode cL_act 94 = .ok (.if_icmp .ne 12, 3) := by decide +kernel
theorem dL_act_97 : decode cL_act 97 = .ok (.aload_n 0, 1) := by decide +kernel
theorem dL_act_98 : decode cL_act 98 = .ok (.iload_n 2, 1) := by decide +kernel
theorem dL_act_99 : decode cL_act 99 = .ok (.iload_n 3, 1) := by decide +kernel
theorem dL_act_100 : decode cL_act 100 = .ok (.invokevirtual 31, 3) := by decide +kernel
theorem dL_act_103 : decode cL_act 103 = .ok (.goto 190, 3) := by decide +kernel
theorem dL_act_106 : decode cL_act 106 = .ok (.iload_n 1, 1) := by decide +kernel
theorem dL_act_107 : decode cL_act 107 = .ok (.bipush 7, 2) := by decide +kernel
theorem dL_act_109 : decode cL_act 109 = .ok (.if_icmp .ne 11, 3) := by decide +kernel
theorem dL_act_112 : decode cL_act 112 = .ok (.aload_n 0, 1) := by decide +kernel
theorem dL_act_113 : decode cL_act 113 = .ok (.iload_n 2, 1) := by decide +kernel
theorem dL_act_114 : decode cL_act 114 = .ok (.invokevirtual 34, 3) := by decide +kernel
theorem dL_act_117 : decode cL_act 117 = .ok (.goto 176, 3) := by decide +kernel
theorem dL_act_120 : decode cL_act 120 = .ok (.iload_n 1, 1) := by decide +kernel
theorem dL_act_121 : decode cL_act 121 = .ok (.bipush 8, 2) := by decide +kernel
theorem dL_act_123 : decode cL_act 123 = .ok (.if_icmp .ne 11, 3) := by decide +kernel
theorem dL_act_126 : decode cL_act 126 = .ok (.aload_n 0, 1) := by decide +kernel
theorem dL_act_127 : decode cL_act 127 = .ok (.iload_n 2, 1) := by decide +kernel
theorem dL_act_128 : decode cL_act 128 = .ok (.invokevirtual 37, 3) := by decide +kernel
theorem dL_act_131 : decode cL_act 131 = .ok (.goto 162, 3) := by decide +kernel
theorem dL_act_134 : decode cL_act 134 = .ok (.iload_n 1, 1) := by decide +kernel
theorem dL_act_135 : decode cL_act 135 = .ok (.bipush 9, 2) := by decide +kernel
theorem dL_act_137 : decode cL_act 137 = .ok (.if_icmp .ne 16, 3) := by decide +kernel
theorem dL_act_140 : decode cL_act 140 = .ok (.aload_n 0, 1) := by decide +kernel
theorem dL_act_141 : decode cL_act 141 = .ok (.iload_n 2, 1) := by decide +kernel
theorem dL_act_142 : decode cL_act 142 = .ok (.iload_n 3, 1) := by decide +kernel
theorem dL_act_143 : decode cL_act 143 = .ok (.iload 4, 2) := by decide +kernel
theorem dL_act_145 : decode cL_act 145 = .ok (.iload 5, 2) := by decide +kernel
theorem dL_act_147 : decode cL_act 147 = .ok (.invokevirtual 40, 3) := by decide +kernel
theorem dL_act_150 : decode cL_act 150 = .ok (.goto 143, 3) := by decide +kernel
theorem dL_act_153 : decode cL_act 153 = .ok (.iload_n 1, 1) := by decide +kernel
theorem dL_act_154 : decode cL_act 154 = .ok (.bipush 10, 2) := by decide +kernel
theorem dL_act_156 : decode cL_act 156 = .ok (.if_icmp .ne 22, 3) := by decide +kernel
theorem dL_act_159 : decode cL_act 159 = .ok (.aload_n 0, 1) := by decide +kernel
theorem dL_act_160 : decode cL_act 160 = .ok (.iload_n 2, 1) := by decide +kernel
theorem dL_act_161 : decode cL_act 161 = .ok (.iload_n 3, 1) := by decide +kernel
theorem dL_act_162 : decode cL_act 162 = .ok (.iload 4, 2) := by decide +kernel
theorem dL_act_164 : decode cL_act 164 = .ok (.invokevirtual 43, 3) := by decide +kernel
theorem dL_act_167 : decode cL_act 167 = .ok (.ifCond .eq 7, 3) := by decide +kernel
theorem dL_act_170 : decode cL_act 170 = .ok (.iconst 1, 1) := by decide +kernel
theorem dL_act_171 : decode cL_act 171 = .ok (.goto 122, 3) := by decide +kernel
theorem dL_act_174 : decode cL_act 174 = .ok (.iconst 0, 1) := by decide +kernel
theorem dL_act_175 : decode cL_act 175 = .ok (.goto 118, 3) := by decide +kernel
theorem dL_act_178 : decode cL_act 178 = .ok (.iload_n 1, 1) := by decide +kernel
theorem dL_act_179 : decode cL_act 179 = .ok (.bipush 11, 2) := by decide +kernel
theorem dL_act_181 : decode cL_act 181 = .ok (.if_icmp .ne 14, 3) := by decide +kernel
theorem dL_act_184 : decode cL_act 184 = .ok (.aload_n 0, 1) := by decide +kernel
theorem dL_act_185 : decode cL_act 185 = .ok (.iload_n 2, 1) := by decide +kernel
theorem dL_act_186 : decode cL_act 186 = .ok (.iload_n 3, 1) := by decide +kernel
theorem dL_act_187 : decode cL_act 187 = .ok (.iload 4, 2) := by decide +kernel
theorem dL_act_189 : decode cL_act 189 = .ok (.invokevirtual 47, 3) := by decide +kernel
theorem dL_act_192 : decode cL_act 192 = .ok (.goto 101, 3) := by decide +kernel
theorem dL_act_195 : decode cL_act 195 = .ok (.iload_n 1, 1) := by decide +kernel
theorem dL_act_196 : decode cL_act 196 = .ok (.bipush 12, 2) := by decide +kernel
theorem dL_act_198 : decode cL_act 198 = .ok (.if_icmp .ne 12, 3) := by decide +kernel
theorem dL_act_201 : decode cL_act 201 = .ok (.aload_n 0, 1) := by decide +kernel
theorem dL_act_202 : decode cL_act 202 = .ok (.iload_n 2, 1) := by decide +kernel
theorem dL_act_203 : decode cL_act 203 = .ok (.iload_n 3, 1) := by decide +kernel
theorem dL_act_204 : decode cL_act 204 = .ok (.invokevirtual 50, 3) := by decide +kernel
theorem dL_act_207 : decode cL_act 207 = .ok (.goto 86, 3) := by decide +kernel
theorem dL_act_210 : decode cL_act 210 = .ok (.iload_n 1, 1) := by decide +kernel
theorem dL_act_211 : decode cL_act 211 = .ok (.bipush 13, 2) := by decide +kernel
theorem dL_act_213 : decode cL_act 213 = .ok (.if_icmp .ne 14, 3) := by decide +kernel
theorem dL_act_216 : decode cL_act 216 = .ok (.aload_n 0, 1) := by decide +kernel
theorem dL_act_217 : decode cL_act 217 = .ok (.iload_n 2, 1) := by decide +kernel
theorem dL_act_218 : decode cL_act 218 = .ok (.iload_n 3, 1) := by decide +kernel
theorem dL_act_219 : decode cL_act 219 = .ok (.iload 4, 2) := by decide +kernel
theorem dL_act_221 : decode cL_act 221 = .ok (.invokevirtual 53, 3) := by decide +kernel
theorem dL_act_224 : decode cL_act 224 = .ok (.goto 69, 3) := by decide +kernel
theorem dL_act_227 : decode cL_act 227 = .ok (.iload_n 1, 1) := by decide +kernel
theorem dL_act_228 : decode cL_act 228 = .ok (.bipush 14, 2) := by decide +kernel
theorem dL_act_230 : decode cL_act 230 = .ok (.if_icmp .ne 14, 3) := by decide +kernel
theorem dL_act_233 : decode cL_act 233 = .ok (.aload_n 0, 1) := by decide +kernel
theorem dL_act_234 : decode cL_act 234 = .ok (.iload_n 2, 1) := by decide +kernel
theorem dL_act_235 : decode cL_act 235 = .ok (.iload_n 3, 1) := by decide +kernel
theorem dL_act_236 : decode cL_act 236 = .ok (.iload 4, 2) := by decide +kernel
theorem dL_act_238 : decode cL_act 238 = .ok (.invokevirtual 56, 3) := by decide +kernel
theorem dL_act_241 : decode cL_act 241 = .ok (.goto 52, 3) := by decide +kernel
theorem dL_act_244 : decode cL_act 244 = .ok (.iload_n 1, 1) := by decide +kernel
theorem dL_act_245 : decode cL_act 245 = .ok (.bipush 15, 2) := by decide +kernel
theorem dL_act_247 : decode cL_act 247 = .ok (.if_icmp .ne 12, 3) := by decide +kernel
theorem dL_act_250 : decode cL_act 250 = .ok (.aload_n 0, 1) := by decide +kernel
theorem dL_act_251 : decode cL_act 251 = .ok (.iload_n 2, 1) := by decide +kernel
theorem dL_act_252 : decode cL_act 252 = .ok (.iload_n 3, 1) := by decide +kernel
theorem dL_act_253 : decode cL_act 253 = .ok (.invokevirtual 59, 3) := by decide +kernel
theorem dL_act_256 : decode cL_act 256 = .ok (.goto 37, 3) := by decide +kernel
theorem dL_act_259 : decode cL_act 259 = .ok (.iload_n 1, 1) := by decide +kernel
theorem dL_act_260 : decode cL_act 260 = .ok (.bipush 16, 2) := by decide +kernel
theorem dL_act_262 : decode cL_act 262 = .ok (.if_icmp .ne 12, 3) := by decide +kernel
theorem dL_act_265 : decode cL_act 265 = .ok (.aload_n 0, 1) := by decide +kernel
theorem dL_act_266 : decode cL_act 266 = .ok (.iload_n 2, 1) := by decide +kernel
theorem dL_act_267 : decode cL_act 267 = .ok (.iload_n 3, 1) := by decide +kernel
theorem dL_act_268 : decode cL_act 268 = .ok (.invokevirtual 62, 3) := by decide +kernel
theorem dL_act_271 : decode cL_act 271 = .ok (.goto 22, 3) := by decide +kernel
theorem dL_act_274 : decode cL_act 274 = .ok (.iload_n 1, 1) := by decide +kernel
theorem dL_act_275 : decode cL_act 275 = .ok (.bipush 17, 2) := by decide +kernel
theorem dL_act_277 : decode cL_act 277 = .ok (.if_icmp .ne 11, 3) := by decide +kernel
theorem dL_act_280 : decode cL_act 280 = .ok (.aload_n 0, 1) := by decide +kernel
theorem dL_act_281 : decode cL_act 281 = .ok (.iload_n 2, 1) := by decide +kernel
theorem dL_act_282 : decode cL_act 282 = .ok (.invokevirtual 65, 3) := by decide +kernel
theorem dL_act_285 : decode cL_act 285 = .ok (.goto 8, 3) := by decide +kernel
theorem dL_act_288 : decode cL_act 288 = .ok (.aload_n 0, 1) := by decide +kernel
theorem dL_act_289 : decode cL_act 289 = .ok (.iload_n 2, 1) := by decide +kernel
theorem dL_act_290 : decode cL_act 290 = .ok (.invokevirtual 68, 3) := by decide +kernel
theorem dL_act_293 : decode cL_act 293 = .ok (.ireturn, 1) := by decide +kernel
theorem dL_act_294 : decode cL_act 294 = .ok (.astore 6, 2) := by decide +kernel
theorem dL_act_296 : decode cL_act 296 = .ok (.ldc 73, 2) := by decide +kernel
theorem dL_act_298 : decode cL_act 298 = .ok (.ireturn, 1) := by decide +kernel
theorem dL_act_299 : decode cL_act 299 = .ok (.astore 6, 2) := by decide +kernel
theorem dL_act_301 : decode cL_act 301 = .ok (.ldc 76, 2) := by decide +kernel
theorem dL_act_303 : decode cL_act 303 = .ok (.ireturn, 1) := by decide +kernel
theorem dL_act_304 : decode cL_act 304 = .ok (.astore 6, 2) := by decide +kernel
theorem dL_act_306 : decode cL_act 306 = .ok (.ldc 79, 2) := by decide +kernel
theorem dL_act_308 : decode cL_act 308 = .ok (.ireturn, 1) := by decide +kernel
set_option maxRecDepth 20000 in
theorem ggL_refuses_X6_changes : GoodIn wsL_refuses wsX6_changes := goodIn_r _ [8, 9, 10, 11, 12, 13, 14, 15, 398, 399, 400, 401, 402, 403, 404, 405, 406] (by decide +kernel) (by decide +kernel)
set_option maxRecDepth 20000 in
theorem gL_refuses_X6_changes : GoodIn wsL_refuses (wsV RL 80 RX6 yX6_changes wsX6_changes) := goodIn_app (goodIn_of _ (by decide +kernel)) ggL_refuses_X6_changes
set_option maxRecDepth 20000 in
theorem ggL_refuses_X6_today : GoodIn wsL_refuses wsX6_today := goodIn_r _ [19, 20, 398, 399, 400, 401, 402, 403] (by decide +kernel) (by decide +kernel)
set_option maxRecDepth 20000 in
theorem gL_refuses_X6_today : GoodIn wsL_refuses (wsV RL 84 RX6 yX6_today wsX6_today) := goodIn_app (goodIn_of _ (by decide +kernel)) ggL_refuses_X6_today
set_option maxRecDepth 20000 in
theorem ggL_refuses_X6_premium : GoodIn wsL_refuses wsX6_premium := goodIn_ca (goodIn_ca (goodIn_r _ [24, 25, 26, 27, 7, 28, 29, 30, 31, 32, 10, 11, 12, 13, 14, 15, 33, 34, 35, 36, 37, 38, 39, 40, 41, 42, 43, 44, 45, 46, 47, 48, 49, 50, 51, 52, 53, 20, 54, 55, 56, 57, 58, 59, 60, 61, 62, 63, 64, 65, 66, 67, 68, 69, 70, 71, 72, 73, 74, 75, 76, 77, 78, 79, 80, 81, 82, 83, 84, 85, 86, 87, 88, 89, 90, 91, 92, 93, 94, 95, 96, 97, 98, 99, 100, 101, 102, 103, 104, 105, 106, 107, 108, 109, 110, 111, 112, 113, 114, 115, 116, 117, 118, 119, 120, 121, 122, 123, 124, 125, 126, 127, 128, 129, 130, 131, 132, 133, 134, 135, 136, 137, 138, 139, 140, 141, 142, 143, 144, 145, 146, 147, 148, 149, 150, 151, 152, 153, 154, 155, 156, 157, 158, 159, 160, 161, 162, 163, 164, 398, 399, 400, 401, 402, 403, 404, 405, 406, 407, 408, 409, 410, 411, 412, 413, 414, 415, 416, 417, 418, 419, 420, 421, 422, 423, 424] (by decide +kernel) (by decide +kernel)) (goodIn_sub (fun _ h => List.mem_cons_of_mem _ (List.mem_append_left _ (List.mem_append_left _ (List.mem_append_right _ h)))) (by decide +kernel))) (goodIn_sub (fun _ h => List.mem_cons_of_mem _ (List.mem_append_left _ (List.mem_append_right _ h))) (by decide +kernel))
set_option maxRecDepth 20000 in
theorem gL_refuses_X6_premium : GoodIn wsL_refuses (wsV RL 59 RX6 yX6_premium wsX6_premium) := goodIn_app (goodIn_of _ (by decide +kernel)) ggL_refuses_X6_premium
set_option maxRecDepth 20000 in
theorem ggL_refuses_X6_segments : GoodIn wsL_refuses wsX6_segments := goodIn_ca (goodIn_ca (goodIn_r _ [168, 63, 25, 26, 27, 7, 28, 29, 30, 31, 32, 10, 11, 12, 13, 14, 15, 33, 34, 35, 36, 37, 38, 39, 40, 41, 42, 43, 44, 45, 46, 47, 48, 49, 50, 51, 52, 53, 20, 54, 55, 56, 57, 58, 64, 65, 66, 67, 68, 69, 70, 71, 72, 73, 74, 75, 76, 77, 78, 79, 80, 81, 82, 83, 84, 85, 86, 87, 88, 89, 90, 91, 92, 93, 94, 95, 96, 97, 98, 99, 100, 101, 102, 103, 104, 105, 106, 107, 108, 109, 110, 111, 112, 113, 114, 115, 116, 117, 118, 119, 120, 121, 122, 123, 124, 125, 126, 127, 128, 129, 130, 131, 132, 133, 134, 135, 136, 137, 138, 139, 140, 141, 142, 143, 144, 169, 170, 171, 172, 149, 150, 151, 152, 398, 399, 400, 401, 402, 403, 404, 405, 406, 407, 408, 409, 410, 411, 412, 413, 414, 415, 416, 417, 418, 419, 420, 421, 422, 423, 424] (by decide +kernel) (by decide +kernel)) (goodIn_sub (fun _ h => List.mem_cons_of_mem _ (List.mem_append_left _ (List.mem_append_left _ (List.mem_append_right _ h)))) (by decide +kernel))) (goodIn_sub (fun _ h => List.mem_cons_of_mem _ (List.mem_append_left _ (List.mem_append_right _ h))) (by decide +kernel))
set_option maxRecDepth 20000 in
theorem gL_refuses_X6_segments : GoodIn wsL_refuses (wsV RL 50 RX6 yX6_segments wsX6_segments) := goodIn_app (goodIn_of _ (by decide +kernel)) ggL_refuses_X6_segments
set_option maxRecDepth 20000 in
theorem ggL_refuses_L_act : GoodIn wsL_refuses wsL_act := goodIn_ca (goodIn_ca (goodIn_ca (goodIn_r _ [176, 177, 178, 179, 1, 2, 180, 181, 182, 183, 7, 184, 185, 186, 31, 187, 188, 189, 54, 55, 56, 57, 58, 10, 11, 12, 13, 14, 15, 190, 191, 192, 193, 194, 195, 196, 197, 198, 199, 200, 201, 202, 203, 204, 49, 205, 206, 207, 208, 209, 210, 211, 212, 213, 214, 215, 216, 217, 218, 219, 220, 221, 222, 223, 224, 225, 226, 227, 228, 229, 230, 231, 232, 233, 86, 87, 88, 234, 235, 236, 237, 238, 239, 240, 241, 242, 243, 244, 245, 78, 246, 247, 248, 249, 250, 251, 252, 253, 254, 255, 256, 109, 110, 257, 258, 259, 260, 261, 262, 263, 264, 128, 265, 266, 267, 268, 29, 30, 269, 116, 117, 270, 271, 272, 273, 274, 275, 133, 276, 277, 135, 278, 279, 280, 281, 282, 20, 283, 284, 285, 286, 287, 25, 26, 27, 28, 32, 33, 34, 35, 36, 37, 38, 39, 40, 41, 42, 43, 44, 45, 46, 47, 48, 288, 289, 290, 291, 9, 292, 293, 94, 294, 295, 296, 297, 298, 97, 299, 300, 301, 302, 303, 304, 96, 305, 306, 307, 308, 309, 310, 311, 312, 313, 314, 315, 316, 317, 318, 319, 320, 321, 322, 323, 324, 325, 326, 327, 328, 329, 330, 331, 332, 333, 334, 335, 336, 337, 338, 339, 340, 341, 342, 343, 344, 345, 346, 89, 347, 348, 349, 350, 351, 84, 90, 91, 92, 93, 95, 352, 353, 354, 355, 68, 50, 51, 52, 53, 356, 357, 358, 359, 69, 70, 71, 72, 73, 74, 75, 76, 77, 79, 80, 81, 82, 83, 85, 98, 99, 100, 101, 102, 103, 104, 105, 106, 107, 108, 111, 112, 113, 114, 115, 118, 119, 120, 121, 129, 360, 361, 362, 363, 126, 364, 365, 366, 367, 122, 123, 124, 125, 127, 130, 131, 132, 134, 136, 137, 165, 166, 167, 168, 63, 64, 65, 66, 67, 138, 139, 140, 141, 142, 143, 144, 169, 170, 171, 172, 149, 150, 151, 152, 368, 369, 370, 371, 372, 373, 374, 375, 376, 377, 378, 379, 380, 381, 382, 383, 384, 154, 155, 156, 157, 158, 159, 160, 161, 162, 163, 164, 21, 22, 23, 24, 59, 60, 61, 62, 145, 146, 147, 148, 153, 385, 386, 387, 388, 389, 390, 391, 392, 393, 394, 395, 396, 397, 398, 399, 400, 401, 402, 403, 409, 410, 411, 404, 405, 406, 420, 421, 422, 412, 413, 414, 415, 416, 417, 418, 419, 407, 408, 423, 424] (by decide +kernel) (by decide +kernel)) (goodIn_sub (fun _ h => List.mem_cons_of_mem _ (List.mem_append_right _ h)) (by decide +kernel))) (goodIn_sub (fun _ h => List.mem_cons_of_mem _ (List.mem_append_left _ (List.mem_append_right _ h))) (by decide +kernel))) (goodIn_sub (fun _ h => List.mem_cons_of_mem _ (List.mem_append_left _ (List.mem_append_left _ (List.mem_append_right _ h)))) (by decide +kernel))
set_option maxRecDepth 20000 in
theorem gL_refuses_L_act : GoodIn wsL_refuses (va_wsS RL 88 yL_act wsL_act) := goodIn_app (goodIn_of _ (by decide +kernel)) ggL_refuses_L_act
theorem dL_refuses_0 : decode cL_refuses 0 = .ok (.aload_n 0, 1) := by decide +kernel
theorem dL_refuses_1 : decode cL_refuses 1 = .ok (.invokevirtual 80, 3) := by decide +kernel
theorem dL_refuses_4 : decode cL_refuses 4 = .ok (.istore_n 2, 1) := by decide +kernel
theorem dL_refuses_5 : decode cL_refuses 5 = .ok (.aload_n 0, 1) := by decide +kernel
theorem dL_refuses_6 : decode cL_refuses 6 = .ok (.invokevirtual 84, 3) := by decide +kernel
theorem dL_refuses_9 : decode cL_refuses 9 = .ok (.istore_n 3, 1) := by decide +kernel
theorem dL_refuses_10 : decode cL_refuses 10 = .ok (.aload_n 0, 1) := by decide +kernel
theorem dL_refuses_11 : decode cL_refuses 11 = .ok (.iconst 0, 1) := by decide +kernel
theorem dL_refuses_12 : decode cL_refuses 12 = .ok (.iload_n 3, 1) := by decide +kernel
theorem dL_refuses_13 : decode cL_refuses 13 = .ok (.invokevirtual 59, 3) := by decide +kernel
theorem dL_refuses_16 : decode cL_refuses 16 = .ok (.istore 4, 2) := by decide +kernel
theorem dL_refuses_18 : decode cL_refuses 18 = .ok (.aload_n 0, 1) := by decide +kernel
theorem dL_refuses_19 : decode cL_refuses 19 = .ok (.iconst 0, 1) := by decide +kernel
theorem dL_refuses_20 : decode cL_refuses 20 = .ok (.iload_n 3, 1) := by decide +kernel
theorem dL_refuses_21 : decode cL_refuses 21 = .ok (.invokevirtual 50, 3) := by decide +kernel
theorem dL_refuses_24 : decode cL_refuses 24 = .ok (.istore 5, 2) := by decide +kernel
theorem dL_refuses_26 : decode cL_refuses 26 = .ok (.ldc 73, 2) := by decide +kernel
theorem dL_refuses_28 : decode cL_refuses 28 = .ok (.istore 6, 2) := by decide +kernel
theorem dL_refuses_30 : decode cL_refuses 30 = .ok (.ldc 76, 2) := by decide +kernel
theorem dL_refuses_32 : decode cL_refuses 32 = .ok (.istore 7, 2) := by decide +kernel
theorem dL_refuses_34 : decode cL_refuses 34 = .ok (.ldc 87, 2) := by decide +kernel
theorem dL_refuses_36 : decode cL_refuses 36 = .ok (.istore 8, 2) := by decide +kernel
theorem dL_refuses_38 : decode cL_refuses 38 = .ok (.iconst 0, 1) := by decide +kernel
theorem dL_refuses_39 : decode cL_refuses 39 = .ok (.istore 9, 2) := by decide +kernel
theorem dL_refuses_41 : decode cL_refuses 41 = .ok (.iload 9, 2) := by decide +kernel
theorem dL_refuses_43 : decode cL_refuses 43 = .ok (.iconst 4, 1) := by decide +kernel
theorem dL_refuses_44 : decode cL_refuses 44 = .ok (.if_icmp .ge 836, 3) := by decide +kernel
theorem dL_refuses_47 : decode cL_refuses 47 = .ok (.iload 9, 2) := by decide +kernel
theorem dL_refuses_49 : decode cL_refuses 49 = .ok (.ifCond .ne 7, 3) := by decide +kernel
theorem dL_refuses_52 : decode cL_refuses 52 = .ok (.iconst (-1), 1) := by decide +kernel
theorem dL_refuses_53 : decode cL_refuses 53 = .ok (.goto 19, 3) := by decide +kernel
theorem dL_refuses_56 : decode cL_refuses 56 = .ok (.iload 9, 2) := by decide +kernel
theorem dL_refuses_58 : decode cL_refuses 58 = .ok (.iconst 2, 1) := by decide +kernel
theorem dL_refuses_59 : decode cL_refuses 59 = .ok (.if_icmp .ne 8, 3) := by decide +kernel
theorem dL_refuses_62 : decode cL_refuses 62 = .ok (.iload 8, 2) := by decide +kernel
theorem dL_refuses_64 : decode cL_refuses 64 = .ok (.goto 8, 3) := by decide +kernel
theorem dL_refuses_67 : decode cL_refuses 67 = .ok (.iload 8, 2) := by decide +kernel
theorem dL_refuses_69 : decode cL_refuses 69 = .ok (.ineg, 1) := by decide +kernel
theorem dL_refuses_70 : decode cL_refuses 70 = .ok (.iconst 1, 1) := by decide +kernel
theorem dL_refuses_71 : decode cL_refuses 71 = .ok (.isub, 1) := by decide +kernel
theorem dL_refuses_72 : decode cL_refuses 72 = .ok (.istore 10, 2) := by decide +kernel
theorem dL_refuses_74 : decode cL_refuses 74 = .ok (.iload 9, 2) := by decide +kernel
theorem dL_refuses_76 : decode cL_refuses 76 = .ok (.iconst 1, 1) := by decide +kernel
theorem dL_refuses_77 : decode cL_refuses 77 = .ok (.if_icmp .ne 7, 3) := by decide +kernel
theorem dL_refuses_80 : decode cL_refuses 80 = .ok (.iload_n 1, 1) := by decide +kernel
theorem dL_refuses_81 : decode cL_refuses 81 = .ok (.goto 5, 3) := by decide +kernel
theorem dL_refuses_84 : decode cL_refuses 84 = .ok (.iload 10, 2) := by decide +kernel
theorem dL_refuses_86 : decode cL_refuses 86 = .ok (.istore 11, 2) := by decide +kernel
theorem dL_refuses_88 : decode cL_refuses 88 = .ok (.iload 9, 2) := by decide +kernel
theorem dL_refuses_90 : decode cL_refuses 90 = .ok (.iconst 1, 1) := by decide +kernel
theorem dL_refuses_91 : decode cL_refuses 91 = .ok (.if_icmp .ne 7, 3) := by decide +kernel
theorem dL_refuses_94 : decode cL_refuses 94 = .ok (.iconst 3, 1) := by decide +kernel
theorem dL_refuses_95 : decode cL_refuses 95 = .ok (.goto 5, 3) := by decide +kernel
theorem dL_refuses_98 : decode cL_refuses 98 = .ok (.iload 10, 2) := by decide +kernel
theorem dL_refuses_100 : decode cL_refuses 100 = .ok (.istore 12, 2) := by decide +kernel
theorem dL_refuses_102 : decode cL_refuses 102 = .ok (.iload 9, 2) := by decide +kernel
theorem dL_refuses_104 : decode cL_refuses 104 = .ok (.iconst 1, 1) := by decide +kernel
theorem dL_refuses_105 : decode cL_refuses 105 = .ok (.if_icmp .ne 9, 3) := by decide +kernel
theorem dL_refuses_108 : decode cL_refuses 108 = .ok (.sipush 365, 3) := by decide +kernel
theorem dL_refuses_111 : decode cL_refuses 111 = .ok (.goto 5, 3) := by decide +kernel
theorem dL_refuses_114 : decode cL_refuses 114 = .ok (.iload 10, 2) := by decide +kernel
theorem dL_refuses_116 : decode cL_refuses 116 = .ok (.istore 13, 2) := by decide +kernel
theorem dL_refuses_118 : decode cL_refuses 118 = .ok (.iload 9, 2) := by decide +kernel
theorem dL_refuses_120 : decode cL_refuses 120 = .ok (.iconst 1, 1) := by decide +kernel
theorem dL_refuses_121 : decode cL_refuses 121 = .ok (.if_icmp .ne 9, 3) := by decide +kernel
theorem dL_refuses_124 : decode cL_refuses 124 = .ok (.iload_n 3, 1) := by decide +kernel
theorem dL_refuses_125 : decode cL_refuses 125 = .ok (.iconst 1, 1) := by decide +kernel
theorem dL_refuses_126 : decode cL_refuses 126 = .ok (.iadd, 1) := by decide +kernel
theorem dL_refuses_127 : decode cL_refuses 127 = .ok (.goto 5, 3) := by decide +kernel
theorem dL_refuses_130 : decode cL_refuses 130 = .ok (.iload 10, 2) := by decide +kernel
theorem dL_refuses_132 : decode cL_refuses 132 = .ok (.istore 14, 2) := by decide +kernel
theorem dL_refuses_134 : decode cL_refuses 134 = .ok (.iload 9, 2) := by decide +kernel
theorem dL_refuses_136 : decode cL_refuses 136 = .ok (.iconst 1, 1) := by decide +kernel
theorem dL_refuses_137 : decode cL_refuses 137 = .ok (.if_icmp .ne 7, 3) := by decide +kernel
theorem dL_refuses_140 : decode cL_refuses 140 = .ok (.iload_n 2, 1) := by decide +kernel
theorem dL_refuses_141 : decode cL_refuses 141 = .ok (.goto 5, 3) := by decide +kernel
theorem dL_refuses_144 : decode cL_refuses 144 = .ok (.iload 10, 2) := by decide +kernel
theorem dL_refuses_146 : decode cL_refuses 146 = .ok (.istore 15, 2) := by decide +kernel
theorem dL_refuses_148 : decode cL_refuses 148 = .ok (.iload 9, 2) := by decide +kernel
theorem dL_refuses_150 : decode cL_refuses 150 = .ok (.iconst 1, 1) := by decide +kernel
theorem dL_refuses_151 : decode cL_refuses 151 = .ok (.if_icmp .ne 8, 3) := by decide +kernel
theorem dL_refuses_154 : decode cL_refuses 154 = .ok (.bipush 21, 2) := by decide +kernel
theorem dL_refuses_156 : decode cL_refuses 156 = .ok (.goto 5, 3) := by decide +kernel
theorem dL_refuses_159 : decode cL_refuses 159 = .ok (.iload 10, 2) := by decide +kernel
theorem dL_refuses_161 : decode cL_refuses 161 = .ok (.istore 16, 2) := by decide +kernel
theorem dL_refuses_163 : decode cL_refuses 163 = .ok (.aload_n 0, 1) := by decide +kernel
theorem dL_refuses_164 : decode cL_refuses 164 = .ok (.iconst 0, 1) := by decide +kernel
theorem dL_refuses_165 : decode cL_refuses 165 = .ok (.iload 9, 2) := by decide +kernel
theorem dL_refuses_167 : decode cL_refuses 167 = .ok (.ifCond .ne 7, 3) := by decide +kernel
theorem dL_refuses_170 : decode cL_refuses 170 = .ok (.iconst 0, 1) := by decide +kernel
theorem dL_refuses_171 : decode cL_refuses 171 = .ok (.goto 17, 3) := by decide +kernel
theorem dL_refuses_174 : decode cL_refuses 174 = .ok (.iload 9, 2) := by decide +kernel
theorem dL_refuses_176 : decode cL_refuses 176 = .ok (.iconst 1, 1) := by decide +kernel
theorem dL_refuses_177 : decode cL_refuses 177 = .ok (.if_icmp .ne 9, 3) := by decide +kernel
theorem dL_refuses_180 : decode cL_refuses 180 = .ok (.sipush 1001, 3) := by decide +kernel
theorem dL_refuses_183 : decode cL_refuses 183 = .ok (.goto 5, 3) := by decide +kernel
theorem dL_refuses_186 : decode cL_refuses 186 = .ok (.iload 10, 2) := by decide +kernel
theorem dL_refuses_188 : decode cL_refuses 188 = .ok (.iconst 0, 1) := by decide +kernel
theorem dL_refuses_189 : decode cL_refuses 189 = .ok (.iconst 0, 1) := by decide +kernel
theorem dL_refuses_190 : decode cL_refuses 190 = .ok (.iconst 0, 1) := by decide +kernel
theorem dL_refuses_191 : decode cL_refuses 191 = .ok (.invokestatic 88, 3) := by decide +kernel
theorem dL_refuses_194 : decode cL_refuses 194 = .ok (.iload 7, 2) := by decide +kernel
theorem dL_refuses_196 : decode cL_refuses 196 = .ok (.if_icmp .ne 170, 3) := by decide +kernel
theorem dL_refuses_199 : decode cL_refuses 199 = .ok (.aload_n 0, 1) := by decide +kernel
theorem dL_refuses_200 : decode cL_refuses 200 = .ok (.iconst 1, 1) := by decide +kernel
theorem dL_refuses_201 : decode cL_refuses 201 = .ok (.iload 12, 2) := by decide +kernel
theorem dL_refuses_203 : decode cL_refuses 203 = .ok (.iconst (-1), 1) := by decide +kernel
theorem dL_refuses_204 : decode cL_refuses 204 = .ok (.iconst 0, 1) := by decide +kernel
theorem dL_refuses_205 : decode cL_refuses 205 = .ok (.iconst 0, 1) := by decide +kernel
theorem dL_refuses_206 : decode cL_refuses 206 = .ok (.invokestatic 88, 3) := by decide +kernel
theorem dL_refuses_209 : decode cL_refuses 209 = .ok (.iload 6, 2) := by decide +kernel
theorem dL_refuses_211 : decode cL_refuses 211 = .ok (.if_icmp .ne 155, 3) := by decide +kernel
theorem dL_refuses_214 : decode cL_refuses 214 = .ok (.aload_n 0, 1) := by decide +kernel
theorem dL_refuses_215 : decode cL_refuses 215 = .ok (.iconst 1, 1) := by decide +kernel
theorem dL_refuses_216 : decode cL_refuses 216 = .ok (.iconst 0, 1) := by decide +kernel
theorem dL_refuses_217 : decode cL_refuses 217 = .ok (.iload 9, 2) := by decide +kernel
theorem dL_refuses_219 : decode cL_refuses 219 = .ok (.iconst 1, 1) := by decide +kernel
theorem dL_refuses_220 : decode cL_refuses 220 = .ok (.if_icmp .ne 8, 3) := by decide +kernel
theorem dL_refuses_223 : decode cL_refuses 223 = .ok (.bipush 101, 2) := by decide +kernel
theorem dL_refuses_225 : decode cL_refuses 225 = .ok (.goto 5, 3) := by decide +kernel
theorem dL_refuses_228 : decode cL_refuses 228 = .ok (.iload 10, 2) := by decide +kernel
theorem dL_refuses_230 : decode cL_refuses 230 = .ok (.iconst 0, 1) := by decide +kernel
theorem dL_refuses_231 : decode cL_refuses 231 = .ok (.iconst 0, 1) := by decide +kernel
theorem dL_refuses_232 : decode cL_refuses 232 = .ok (.invokestatic 88, 3) := by decide +kernel
theorem dL_refuses_235 : decode cL_refuses 235 = .ok (.iload 7, 2) := by decide +kernel
theorem dL_refuses_237 : decode cL_refuses 237 = .ok (.if_icmp .ne 129, 3) := by decide +kernel
theorem dL_refuses_240 : decode cL_refuses 240 = .ok (.aload_n 0, 1) := by decide +kernel
theorem dL_refuses_241 : decode cL_refuses 241 = .ok (.iconst 1, 1) := by decide +kernel
theorem dL_refuses_242 : decode cL_refuses 242 = .ok (.iconst 0, 1) := by decide +kernel
theorem dL_refuses_243 : decode cL_refuses 243 = .ok (.iconst 5, 1) := by decide +kernel
theorem dL_refuses_244 : decode cL_refuses 244 = .ok (.iload 13, 2) := by decide +kernel
theorem dL_refuses_246 : decode cL_refuses 246 = .ok (.iconst 0, 1) := by decide +kernel
theorem dL_refuses_247 : decode cL_refuses 247 = .ok (.invokestatic 88, 3) := by decide +kernel
theorem dL_refuses_250 : decode cL_refuses 250 = .ok (.iload 7, 2) := by decide +kernel
theorem dL_refuses_252 : decode cL_refuses 252 = .ok (.if_icmp .ne 114, 3) := by decide +kernel
theorem dL_refuses_255 : decode cL_refuses 255 = .ok (.aload_n 0, 1) := by decide +kernel
theorem dL_refuses_256 : decode cL_refuses 256 = .ok (.iconst 2, 1) := by decide +kernel
theorem dL_refuses_257 : decode cL_refuses 257 = .ok (.iload 9, 2) := by decide +kernel
theorem dL_refuses_259 : decode cL_refuses 259 = .ok (.ifCond .ne 7, 3) := by decide +kernel
theorem dL_refuses_262 : decode cL_refuses 262 = .ok (.iconst 0, 1) := by decide +kernel
theorem dL_refuses_263 : decode cL_refuses 263 = .ok (.goto 16, 3) := by decide +kernel
theorem dL_refuses_266 : decode cL_refuses 266 = .ok (.iload 9, 2) := by decide +kernel
theorem dL_refuses_268 : decode cL_refuses 268 = .ok (.iconst 1, 1) := by decide +kernel
theorem dL_refuses_269 : decode cL_refuses 269 = .ok (.if_icmp .ne 8, 3) := by decide +kernel
theorem dL_refuses_272 : decode cL_refuses 272 = .ok (.bipush 101, 2) := by decide +kernel
theorem dL_refuses_274 : decode cL_refuses 274 = .ok (.goto 5, 3) := by decide +kernel
theorem dL_refuses_277 : decode cL_refuses 277 = .ok (.iload 10, 2) := by decide +kernel
theorem dL_refuses_279 : decode cL_refuses 279 = .ok (.iconst 0, 1) := by decide +kernel
theorem dL_refuses_280 : decode cL_refuses 280 = .ok (.iconst 0, 1) := by decide +kernel
theorem dL_refuses_281 : decode cL_refuses 281 = .ok (.iconst 0, 1) := by decide +kernel
theorem dL_refuses_282 : decode cL_refuses 282 = .ok (.invokestatic 88, 3) := by decide +kernel
theorem dL_refuses_285 : decode cL_refuses 285 = .ok (.iload 7, 2) := by decide +kernel
theorem dL_refuses_287 : decode cL_refuses 287 = .ok (.if_icmp .ne 79, 3) := by decide +kernel
theorem dL_refuses_290 : decode cL_refuses 290 = .ok (.aload_n 0, 1) := by decide +kernel
theorem dL_refuses_291 : decode cL_refuses 291 = .ok (.iconst 3, 1) := by decide +kernel
theorem dL_refuses_292 : decode cL_refuses 292 = .ok (.iconst 0, 1) := by decide +kernel
theorem dL_refuses_293 : decode cL_refuses 293 = .ok (.iconst 0, 1) := by decide +kernel
theorem dL_refuses_294 : decode cL_refuses 294 = .ok (.iconst 5, 1) := by decide +kernel
theorem dL_refuses_295 : decode cL_refuses 295 = .ok (.iload 16, 2) := by decide +kernel
theorem dL_refuses_297 : decode cL_refuses 297 = .ok (.invokestatic 88, 3) := by decide +kernel
theorem dL_refuses_300 : decode cL_refuses 300 = .ok (.iload 7, 2) := by decide +kernel
theorem dL_refuses_302 : decode cL_refuses 302 = .ok (.if_icmp .ne 64, 3) := by decide +kernel
theorem dL_refuses_305 : decode cL_refuses 305 = .ok (.aload_n 0, 1) := by decide +kernel
theorem dL_refuses_306 : decode cL_refuses 306 = .ok (.iconst 4, 1) := by decide +kernel
theorem dL_refuses_307 : decode cL_refuses 307 = .ok (.iconst 0, 1) := by decide +kernel
theorem dL_refuses_308 : decode cL_refuses 308 = .ok (.iconst 0, 1) := by decide +kernel
theorem dL_refuses_309 : decode cL_refuses 309 = .ok (.iconst 5, 1) := by decide +kernel
theorem dL_refuses_310 : decode cL_refuses 310 = .ok (.iload 9, 2) := by decide +kernel
theorem dL_refuses_312 : decode cL_refuses 312 = .ok (.ifCond .ne 8, 3) := by decide +kernel
theorem dL_refuses_315 : decode cL_refuses 315 = .ok (.bipush (-21), 2) := by decide +kernel
theorem dL_refuses_317 : decode cL_refuses 317 = .ok (.goto 5, 3) := by decide +kernel
theorem dL_refuses_320 : decode cL_refuses 320 = .ok (.iload 16, 2) := by decide +kernel
theorem dL_refuses_322 : decode cL_refuses 322 = .ok (.invokestatic 88, 3) := by decide +kernel
theorem dL_refuses_325 : decode cL_refuses 325 = .ok (.iload 7, 2) := by decide +kernel
theorem dL_refuses_327 : decode cL_refuses 327 = .ok (.if_icmp .ne 39, 3) := by decide +kernel
theorem dL_refuses_330 : decode cL_refuses 330 = .ok (.aload_n 0, 1) := by decide +kernel
theorem dL_refuses_331 : decode cL_refuses 331 = .ok (.bipush 7, 2) := by decide +kernel
theorem dL_refuses_333 : decode cL_refuses 333 = .ok (.iload 15, 2) := by decide +kernel
theorem dL_refuses_335 : decode cL_refuses 335 = .ok (.iconst 0, 1) := by decide +kernel
theorem dL_refuses_336 : decode cL_refuses 336 = .ok (.iconst 0, 1) := by decide +kernel
theorem dL_refuses_337 : decode cL_refuses 337 = .ok (.iconst 0, 1) := by decide +kernel
theorem dL_refuses_338 : decode cL_refuses 338 = .ok (.invokestatic 88, 3) := by decide +kernel
theorem dL_refuses_341 : decode cL_refuses 341 = .ok (.iload 6, 2) := by decide +kernel
theorem dL_refuses_343 : decode cL_refuses 343 = .ok (.if_icmp .ne 23, 3) := by decide +kernel
theorem dL_refuses_346 : decode cL_refuses 346 = .ok (.aload_n 0, 1) := by decide +kernel
theorem dL_refuses_347 : decode cL_refuses 347 = .ok (.bipush 8, 2) := by decide +kernel
theorem dL_refuses_349 : decode cL_refuses 349 = .ok (.iload 15, 2) := by decide +kernel
theorem dL_refuses_351 : decode cL_refuses 351 = .ok (.iconst 0, 1) := by decide +kernel
theorem dL_refuses_352 : decode cL_refuses 352 = .ok (.iconst 0, 1) := by decide +kernel
theorem dL_refuses_353 : decode cL_refuses 353 = .ok (.iconst 0, 1) := by decide +kernel
theorem dL_refuses_354 : decode cL_refuses 354 = .ok (.invokestatic 88, 3) := by decide +kernel
theorem dL_refuses_357 : decode cL_refuses 357 = .ok (.iload 6, 2) := by decide +kernel
theorem dL_refuses_359 : decode cL_refuses 359 = .ok (.if_icmp .ne 7, 3) := by decide +kernel
theorem dL_refuses_362 : decode cL_refuses 362 = .ok (.iconst 1, 1) := by decide +kernel
theorem dL_refuses_363 : decode cL_refuses 363 = .ok (.goto 4, 3) := by decide +kernel
theorem dL_refuses_366 : decode cL_refuses 366 = .ok (.iconst 0, 1) := by decide +kernel
theorem dL_refuses_367 : decode cL_refuses 367 = .ok (.istore 17, 2) := by decide +kernel
theorem dL_refuses_369 : decode cL_refuses 369 = .ok (.iconst 3, 1) := by decide +kernel
theorem dL_refuses_370 : decode cL_refuses 370 = .ok (.istore 18, 2) := by decide +kernel
theorem dL_refuses_372 : decode cL_refuses 372 = .ok (.iload 18, 2) := by decide +kernel
theorem dL_refuses_374 : decode cL_refuses 374 = .ok (.iconst 5, 1) := by decide +kernel
theorem dL_refuses_375 : decode cL_refuses 375 = .ok (.if_icmp .ge 71, 3) := by decide +kernel
theorem dL_refuses_378 : decode cL_refuses 378 = .ok (.iload 17, 2) := by decide +kernel
theorem dL_refuses_380 : decode cL_refuses 380 = .ok (.ifCond .eq 57, 3) := by decide +kernel
theorem dL_refuses_383 : decode cL_refuses 383 = .ok (.aload_n 0, 1) := by decide +kernel
theorem dL_refuses_384 : decode cL_refuses 384 = .ok (.iload 18, 2) := by decide +kernel
theorem dL_refuses_386 : decode cL_refuses 386 = .ok (.iload 11, 2) := by decide +kernel
theorem dL_refuses_388 : decode cL_refuses 388 = .ok (.iconst 0, 1) := by decide +kernel
theorem dL_refuses_389 : decode cL_refuses 389 = .ok (.iconst (-1), 1) := by decide +kernel
theorem dL_refuses_390 : decode cL_refuses 390 = .ok (.bipush 99, 2) := by decide +kernel
theorem dL_refuses_392 : decode cL_refuses 392 = .ok (.invokestatic 88, 3) := by decide +kernel
theorem dL_refuses_395 : decode cL_refuses 395 = .ok (.iload 6, 2) := by decide +kernel
theorem dL_refuses_397 : decode cL_refuses 397 = .ok (.if_icmp .ne 40, 3) := by decide +kernel
theorem dL_refuses_400 : decode cL_refuses 400 = .ok (.aload_n 0, 1) := by decide +kernel
theorem dL_refuses_401 : decode cL_refuses 401 = .ok (.iload 18, 2) := by decide +kernel
theorem dL_refuses_403 : decode cL_refuses 403 = .ok (.iconst 0, 1) := by decide +kernel
theorem dL_refuses_404 : decode cL_refuses 404 = .ok (.iload 12, 2) := by decide +kernel
theorem dL_refuses_406 : decode cL_refuses 406 = .ok (.iconst (-1), 1) := by decide +kernel
theorem dL_refuses_407 : decode cL_refuses 407 = .ok (.bipush 99, 2) := by decide +kernel
theorem dL_refuses_409 : decode cL_refuses 409 = .ok (.invokestatic 88, 3) := by decide +kernel
theorem dL_refuses_412 : decode cL_refuses 412 = .ok (.iload 6, 2) := by decide +kernel
theorem dL_refuses_414 : decode cL_refuses 414 = .ok (.if_icmp .ne 23, 3) := by decide +kernel
theorem dL_refuses_417 : decode cL_refuses 417 = .ok (.aload_n 0, 1) := by decide +kernel
theorem dL_refuses_418 : decode cL_refuses 418 = .ok (.iload 18, 2) := by decide +kernel
theorem dL_refuses_420 : decode cL_refuses 420 = .ok (.iconst 0, 1) := by decide +kernel
theorem dL_refuses_421 : decode cL_refuses 421 = .ok (.iconst 0, 1) := by decide +kernel
theorem dL_refuses_422 : decode cL_refuses 422 = .ok (.iload 13, 2) := by decide +kernel
theorem dL_refuses_424 : decode cL_refuses 424 = .ok (.iconst 5, 1) := by decide +kernel
theorem dL_refuses_425 : decode cL_refuses 425 = .ok (.invokestatic 88, 3) := by decide +kernel
theorem dL_refuses_428 : decode cL_refuses 428 = .ok (.iload 7, 2) := by decide +kernel
theorem dL_refuses_430 : decode cL_refuses 430 = .ok (.if_icmp .ne 7, 3) := by decide +kernel
theorem dL_refuses_433 : decode cL_refuses 433 = .ok (.iconst 1, 1) := by decide +kernel
theorem dL_refuses_434 : decode cL_refuses 434 = .ok (.goto 4, 3) := by decide +kernel
theorem dL_refuses_437 : decode cL_refuses 437 = .ok (.iconst 0, 1) := by decide +kernel
theorem dL_refuses_438 : decode cL_refuses 438 = .ok (.istore 17, 2) := by decide +kernel
theorem dL_refuses_440 : decode cL_refuses 440 = .ok (.iinc 18 1, 3) := by decide +kernel
theorem dL_refuses_443 : decode cL_refuses 443 = .ok (.goto (-71), 3) := by decide +kernel
theorem dL_refuses_446 : decode cL_refuses 446 = .ok (.iconst 5, 1) := by decide +kernel
theorem dL_refuses_447 : decode cL_refuses 447 = .ok (.istore 18, 2) := by decide +kernel
theorem dL_refuses_449 : decode cL_refuses 449 = .ok (.iload 18, 2) := by decide +kernel
theorem dL_refuses_451 : decode cL_refuses 451 = .ok (.bipush 7, 2) := by decide +kernel
theorem dL_refuses_453 : decode cL_refuses 453 = .ok (.if_icmp .ge 53, 3) := by decide +kernel
theorem dL_refuses_456 : decode cL_refuses 456 = .ok (.iload 17, 2) := by decide +kernel
theorem dL_refuses_458 : decode cL_refuses 458 = .ok (.ifCond .eq 39, 3) := by decide +kernel
theorem dL_refuses_461 : decode cL_refuses 461 = .ok (.aload_n 0, 1) := by decide +kernel
theorem dL_refuses_462 : decode cL_refuses 462 = .ok (.iload 18, 2) := by decide +kernel
theorem dL_refuses_464 : decode cL_refuses 464 = .ok (.iload 11, 2) := by decide +kernel
theorem dL_refuses_466 : decode cL_refuses 466 = .ok (.iconst (-1), 1) := by decide +kernel
theorem dL_refuses_467 : decode cL_refuses 467 = .ok (.iconst 0, 1) := by decide +kernel
theorem dL_refuses_468 : decode cL_refuses 468 = .ok (.iconst 0, 1) := by decide +kernel
theorem dL_refuses_469 : decode cL_refuses 469 = .ok (.invokestatic 88, 3) := by decide +kernel
theorem dL_refuses_472 : decode cL_refuses 472 = .ok (.iload 6, 2) := by decide +kernel
theorem dL_refuses_474 : decode cL_refuses 474 = .ok (.if_icmp .ne 23, 3) := by decide +kernel
theorem dL_refuses_477 : decode cL_refuses 477 = .ok (.aload_n 0, 1) := by decide +kernel
theorem dL_refuses_478 : decode cL_refuses 478 = .ok (.iload 18, 2) := by decide +kernel
theorem dL_refuses_480 : decode cL_refuses 480 = .ok (.iconst 0, 1) := by decide +kernel
theorem dL_refuses_481 : decode cL_refuses 481 = .ok (.iload 13, 2) := by decide +kernel
theorem dL_refuses_483 : decode cL_refuses 483 = .ok (.iconst 0, 1) := by decide +kernel
theorem dL_refuses_484 : decode cL_refuses 484 = .ok (.iconst 0, 1) := by decide +kernel
theorem dL_refuses_485 : decode cL_refuses 485 = .ok (.invokestatic 88, 3) := by decide +kernel
theorem dL_refuses_488 : decode cL_refuses 488 = .ok (.iload 7, 2) := by decide +kernel
theorem dL_refuses_490 : decode cL_refuses 490 = .ok (.if_icmp .ne 7, 3) := by decide +kernel
theorem dL_refuses_493 : decode cL_refuses 493 = .ok (.iconst 1, 1) := by decide +kernel
theorem dL_refuses_494 : decode cL_refuses 494 = .ok (.goto 4, 3) := by decide +kernel
theorem dL_refuses_497 : decode cL_refuses 497 = .ok (.iconst 0, 1) := by decide +kernel
theorem dL_refuses_498 : decode cL_refuses 498 = .ok (.istore 17, 2) := by decide +kernel
theorem dL_refuses_500 : decode cL_refuses 500 = .ok (.iinc 18 1, 3) := by decide +kernel
theorem dL_refuses_503 : decode cL_refuses 503 = .ok (.goto (-54), 3) := by decide +kernel
theorem dL_refuses_506 : decode cL_refuses 506 = .ok (.iload 17, 2) := by decide +kernel
theorem dL_refuses_508 : decode cL_refuses 508 = .ok (.ifCond .eq 71, 3) := by decide +kernel
theorem dL_refuses_511 : decode cL_refuses 511 = .ok (.aload_n 0, 1) := by decide +kernel
theorem dL_refuses_512 : decode cL_refuses 512 = .ok (.bipush 9, 2) := by decide +kernel
theorem dL_refuses_514 : decode cL_refuses 514 = .ok (.iload 11, 2) := by decide +kernel
theorem dL_refuses_516 : decode cL_refuses 516 = .ok (.iconst 0, 1) := by decide +kernel
theorem dL_refuses_517 : decode cL_refuses 517 = .ok (.iconst (-1), 1) := by decide +kernel
theorem dL_refuses_518 : decode cL_refuses 518 = .ok (.iconst 0, 1) := by decide +kernel
theorem dL_refuses_519 : decode cL_refuses 519 = .ok (.invokestatic 88, 3) := by decide +kernel
theorem dL_refuses_522 : decode cL_refuses 522 = .ok (.iload 6, 2) := by decide +kernel
theorem dL_refuses_524 : decode cL_refuses 524 = .ok (.if_icmp .ne 55, 3) := by decide +kernel
theorem dL_refuses_527 : decode cL_refuses 527 = .ok (.aload_n 0, 1) := by decide +kernel
theorem dL_refuses_528 : decode cL_refuses 528 = .ok (.bipush 9, 2) := by decide +kernel
theorem dL_refuses_530 : decode cL_refuses 530 = .ok (.iconst 0, 1) := by decide +kernel
theorem dL_refuses_531 : decode cL_refuses 531 = .ok (.iload 12, 2) := by decide +kernel
theorem dL_refuses_533 : decode cL_refuses 533 = .ok (.iconst (-1), 1) := by decide +kernel
theorem dL_refuses_534 : decode cL_refuses 534 = .ok (.iconst 0, 1) := by decide +kernel
theorem dL_refuses_535 : decode cL_refuses 535 = .ok (.invokestatic 88, 3) := by decide +kernel
theorem dL_refuses_538 : decode cL_refuses 538 = .ok (.iload 6, 2) := by decide +kernel
theorem dL_refuses_540 : decode cL_refuses 540 = .ok (.if_icmp .ne 39, 3) := by decide +kernel
theorem dL_refuses_543 : decode cL_refuses 543 = .ok (.aload_n 0, 1) := by decide +kernel
theorem dL_refuses_544 : decode cL_refuses 544 = .ok (.bipush 9, 2) := by decide +kernel
theorem dL_refuses_546 : decode cL_refuses 546 = .ok (.iconst 0, 1) := by decide +kernel
theorem dL_refuses_547 : decode cL_refuses 547 = .ok (.iconst 0, 1) := by decide +kernel
theorem dL_refuses_548 : decode cL_refuses 548 = .ok (.iload 13, 2) := by decide +kernel
theorem dL_refuses_550 : decode cL_refuses 550 = .ok (.iconst 0, 1) := by decide +kernel
theorem dL_refuses_551 : decode cL_refuses 551 = .ok (.invokestatic 88, 3) := by decide +kernel
theorem dL_refuses_554 : decode cL_refuses 554 = .ok (.iload 7, 2) := by decide +kernel
theorem dL_refuses_556 : decode cL_refuses 556 = .ok (.if_icmp .ne 23, 3) := by decide +kernel
theorem dL_refuses_559 : decode cL_refuses 559 = .ok (.aload_n 0, 1) := by decide +kernel
theorem dL_refuses_560 : decode cL_refuses 560 = .ok (.bipush 9, 2) := by decide +kernel
theorem dL_refuses_562 : decode cL_refuses 562 = .ok (.iconst 0, 1) := by decide +kernel
theorem dL_refuses_563 : decode cL_refuses 563 = .ok (.iconst 0, 1) := by decide +kernel
theorem dL_refuses_564 : decode cL_refuses 564 = .ok (.iconst 0, 1) := by decide +kernel
theorem dL_refuses_565 : decode cL_refuses 565 = .ok (.iload 14, 2) := by decide +kernel
theorem dL_refuses_567 : decode cL_refuses 567 = .ok (.invokestatic 88, 3) := by decide +kernel
theorem dL_refuses_570 : decode cL_refuses 570 = .ok (.iload 7, 2) := by decide +kernel
theorem dL_refuses_572 : decode cL_refuses 572 = .ok (.if_icmp .ne 7, 3) := by decide +kernel
theorem dL_refuses_575 : decode cL_refuses 575 = .ok (.iconst 1, 1) := by decide +kernel
theorem dL_refuses_576 : decode cL_refuses 576 = .ok (.goto 4, 3) := by decide +kernel
theorem dL_refuses_579 : decode cL_refuses 579 = .ok (.iconst 0, 1) := by decide +kernel
theorem dL_refuses_580 : decode cL_refuses 580 = .ok (.istore 17, 2) := by decide +kernel
theorem dL_refuses_582 : decode cL_refuses 582 = .ok (.bipush 10, 2) := by decide +kernel
theorem dL_refuses_584 : decode cL_refuses 584 = .ok (.istore 18, 2) := by decide +kernel
theorem dL_refuses_586 : decode cL_refuses 586 = .ok (.iload 18, 2) := by decide +kernel
theorem dL_refuses_588 : decode cL_refuses 588 = .ok (.bipush 12, 2) := by decide +kernel
theorem dL_refuses_590 : decode cL_refuses 590 = .ok (.if_icmp .ge 69, 3) := by decide +kernel
theorem dL_refuses_593 : decode cL_refuses 593 = .ok (.iload 17, 2) := by decide +kernel
theorem dL_refuses_595 : decode cL_refuses 595 = .ok (.ifCond .eq 55, 3) := by decide +kernel
theorem dL_refuses_598 : decode cL_refuses 598 = .ok (.aload_n 0, 1) := by decide +kernel
theorem dL_refuses_599 : decode cL_refuses 599 = .ok (.iload 18, 2) := by decide +kernel
theorem dL_refuses_601 : decode cL_refuses 601 = .ok (.iload 11, 2) := by decide +kernel
theorem dL_refuses_603 : decode cL_refuses 603 = .ok (.iconst (-1), 1) := by decide +kernel
theorem dL_refuses_604 : decode cL_refuses 604 = .ok (.iconst 0, 1) := by decide +kernel
theorem dL_refuses_605 : decode cL_refuses 605 = .ok (.iconst 0, 1) := by decide +kernel
theorem dL_refuses_606 : decode cL_refuses 606 = .ok (.invokestatic 88, 3) := by decide +kernel
theorem dL_refuses_609 : decode cL_refuses 609 = .ok (.iload 6, 2) := by decide +kernel
theorem dL_refuses_611 : decode cL_refuses 611 = .ok (.if_icmp .ne 39, 3) := by decide +kernel
theorem dL_refuses_614 : decode cL_refuses 614 = .ok (.aload_n 0, 1) := by decide +kernel
theorem dL_refuses_615 : decode cL_refuses 615 = .ok (.iload 18, 2) := by decide +kernel
theorem dL_refuses_617 : decode cL_refuses 617 = .ok (.iconst 0, 1) := by decide +kernel
theorem dL_refuses_618 : decode cL_refuses 618 = .ok (.iload 13, 2) := by decide +kernel
theorem dL_refuses_620 : decode cL_refuses 620 = .ok (.iconst 0, 1) := by decide +kernel
theorem dL_refuses_621 : decode cL_refuses 621 = .ok (.iconst 0, 1) := by decide +kernel
theorem dL_refuses_622 : decode cL_refuses 622 = .ok (.invokestatic 88, 3) := by decide +kernel
theorem dL_refuses_625 : decode cL_refuses 625 = .ok (.iload 7, 2) := by decide +kernel
theorem dL_refuses_627 : decode cL_refuses 627 = .ok (.if_icmp .ne 23, 3) := by decide +kernel
theorem dL_refuses_630 : decode cL_refuses 630 = .ok (.aload_n 0, 1) := by decide +kernel
theorem dL_refuses_631 : decode cL_refuses 631 = .ok (.iload 18, 2) := by decide +kernel
theorem dL_refuses_633 : decode cL_refuses 633 = .ok (.iconst 0, 1) := by decide +kernel
theorem dL_refuses_634 : decode cL_refuses 634 = .ok (.iconst 0, 1) := by decide +kernel
theorem dL_refuses_635 : decode cL_refuses 635 = .ok (.iload 14, 2) := by decide +kernel
theorem dL_refuses_637 : decode cL_refuses 637 = .ok (.iconst 0, 1) := by decide +kernel
theorem dL_refuses_638 : decode cL_refuses 638 = .ok (.invokestatic 88, 3) := by decide +kernel
theorem dL_refuses_641 : decode cL_refuses 641 = .ok (.iload 7, 2) := by decide +kernel
theorem dL_refuses_643 : decode cL_refuses 643 = .ok (.if_icmp .ne 7, 3) := by decide +kernel
theorem dL_refuses_646 : decode cL_refuses 646 = .ok (.iconst 1, 1) := by decide +kernel
theorem dL_refuses_647 : decode cL_refuses 647 = .ok (.goto 4, 3) := by decide +kernel
theorem dL_refuses_650 : decode cL_refuses 650 = .ok (.iconst 0, 1) := by decide +kernel
theorem dL_refuses_651 : decode cL_refuses 651 = .ok (.istore 17, 2) := by decide +kernel
theorem dL_refuses_653 : decode cL_refuses 653 = .ok (.iinc 18 1, 3) := by decide +kernel
theorem dL_refuses_656 : decode cL_refuses 656 = .ok (.goto (-70), 3) := by decide +kernel
theorem dL_refuses_659 : decode cL_refuses 659 = .ok (.bipush 13, 2) := by decide +kernel
theorem dL_refuses_661 : decode cL_refuses 661 = .ok (.istore 18, 2) := by decide +kernel
theorem dL_refuses_663 : decode cL_refuses 663 = .ok (.iload 18, 2) := by decide +kernel
theorem dL_refuses_665 : decode cL_refuses 665 = .ok (.bipush 15, 2) := by decide +kernel
theorem dL_refuses_667 : decode cL_refuses 667 = .ok (.if_icmp .ge 81, 3) := by decide +kernel
theorem dL_refuses_670 : decode cL_refuses 670 = .ok (.iload 17, 2) := by decide +kernel
theorem dL_refuses_672 : decode cL_refuses 672 = .ok (.ifCond .eq 67, 3) := by decide +kernel
theorem dL_refuses_675 : decode cL_refuses 675 = .ok (.aload_n 0, 1) := by decide +kernel
theorem dL_refuses_676 : decode cL_refuses 676 = .ok (.iload 18, 2) := by decide +kernel
theorem dL_refuses_678 : decode cL_refuses 678 = .ok (.iload 11, 2) := by decide +kernel
theorem dL_refuses_680 : decode cL_refuses 680 = .ok (.iconst 0, 1) := by decide +kernel
theorem dL_refuses_681 : decode cL_refuses 681 = .ok (.iload 14, 2) := by decide +kernel
theorem dL_refuses_683 : decode cL_refuses 683 = .ok (.iconst 0, 1) := by decide +kernel
theorem dL_refuses_684 : decode cL_refuses 684 = .ok (.invokestatic 88, 3) := by decide +kernel
theorem dL_refuses_687 : decode cL_refuses 687 = .ok (.iload 7, 2) := by decide +kernel
theorem dL_refuses_689 : decode cL_refuses 689 = .ok (.if_icmp .ne 50, 3) := by decide +kernel
theorem dL_refuses_692 : decode cL_refuses 692 = .ok (.aload_n 0, 1) := by decide +kernel
theorem dL_refuses_693 : decode cL_refuses 693 = .ok (.iload 18, 2) := by decide +kernel
theorem dL_refuses_695 : decode cL_refuses 695 = .ok (.iload 11, 2) := by decide +kernel
theorem dL_refuses_697 : decode cL_refuses 697 = .ok (.iconst 0, 1) := by decide +kernel
theorem dL_refuses_698 : decode cL_refuses 698 = .ok (.iconst 0, 1) := by decide +kernel
theorem dL_refuses_699 : decode cL_refuses 699 = .ok (.iconst 0, 1) := by decide +kernel
theorem dL_refuses_700 : decode cL_refuses 700 = .ok (.invokestatic 88, 3) := by decide +kernel
theorem dL_refuses_703 : decode cL_refuses 703 = .ok (.iload 6, 2) := by decide +kernel
theorem dL_refuses_705 : decode cL_refuses 705 = .ok (.if_icmp .ne 34, 3) := by decide +kernel
theorem dL_refuses_708 : decode cL_refuses 708 = .ok (.aload_n 0, 1) := by decide +kernel
theorem dL_refuses_709 : decode cL_refuses 709 = .ok (.iload 18, 2) := by decide +kernel
theorem dL_refuses_711 : decode cL_refuses 711 = .ok (.iconst 0, 1) := by decide +kernel
theorem dL_refuses_712 : decode cL_refuses 712 = .ok (.iload 9, 2) := by decide +kernel
theorem dL_refuses_714 : decode cL_refuses 714 = .ok (.iconst 1, 1) := by decide +kernel
theorem dL_refuses_715 : decode cL_refuses 715 = .ok (.if_icmp .ne 8, 3) := by decide +kernel
theorem dL_refuses_718 : decode cL_refuses 718 = .ok (.iload 5, 2) := by decide +kernel
theorem dL_refuses_720 : decode cL_refuses 720 = .ok (.goto 5, 3) := by decide +kernel
theorem dL_refuses_723 : decode cL_refuses 723 = .ok (.iload 10, 2) := by decide +kernel
theorem dL_refuses_725 : decode cL_refuses 725 = .ok (.iload_n 3, 1) := by decide +kernel
theorem dL_refuses_726 : decode cL_refuses 726 = .ok (.iconst 0, 1) := by decide +kernel
theorem dL_refuses_727 : decode cL_refuses 727 = .ok (.invokestatic 88, 3) := by decide +kernel
theorem dL_refuses_730 : decode cL_refuses 730 = .ok (.iload 6, 2) := by decide +kernel
theorem dL_refuses_732 : decode cL_refuses 732 = .ok (.if_icmp .ne 7, 3) := by decide +kernel
theorem dL_refuses_735 : decode cL_refuses 735 = .ok (.iconst 1, 1) := by decide +kernel
theorem dL_refuses_736 : decode cL_refuses 736 = .ok (.goto 4, 3) := by decide +kernel
theorem dL_refuses_739 : decode cL_refuses 739 = .ok (.iconst 0, 1) := by decide +kernel
theorem dL_refuses_740 : decode cL_refuses 740 = .ok (.istore 17, 2) := by decide +kernel
theorem dL_refuses_742 : decode cL_refuses 742 = .ok (.iinc 18 1, 3) := by decide +kernel
theorem dL_refuses_745 : decode cL_refuses 745 = .ok (.goto (-82), 3) := by decide +kernel
theorem dL_refuses_748 : decode cL_refuses 748 = .ok (.bipush 12, 2) := by decide +kernel
theorem dL_refuses_750 : decode cL_refuses 750 = .ok (.istore 18, 2) := by decide +kernel
theorem dL_refuses_752 : decode cL_refuses 752 = .ok (.iload 18, 2) := by decide +kernel
theorem dL_refuses_754 : decode cL_refuses 754 = .ok (.bipush 17, 2) := by decide +kernel
theorem dL_refuses_756 : decode cL_refuses 756 = .ok (.if_icmp .ge 67, 3) := by decide +kernel
theorem dL_refuses_759 : decode cL_refuses 759 = .ok (.iload 17, 2) := by decide +kernel
theorem dL_refuses_761 : decode cL_refuses 761 = .ok (.ifCond .eq 53, 3) := by decide +kernel
theorem dL_refuses_764 : decode cL_refuses 764 = .ok (.iload 18, 2) := by decide +kernel
theorem dL_refuses_766 : decode cL_refuses 766 = .ok (.bipush 13, 2) := by decide +kernel
theorem dL_refuses_768 : decode cL_refuses 768 = .ok (.if_icmp .eq 42, 3) := by decide +kernel
theorem dL_refuses_771 : decode cL_refuses 771 = .ok (.iload 18, 2) := by decide +kernel
theorem dL_refuses_773 : decode cL_refuses 773 = .ok (.bipush 14, 2) := by decide +kernel
theorem dL_refuses_775 : decode cL_refuses 775 = .ok (.if_icmp .eq 35, 3) := by decide +kernel
theorem dL_refuses_778 : decode cL_refuses 778 = .ok (.aload_n 0, 1) := by decide +kernel
theorem dL_refuses_779 : decode cL_refuses 779 = .ok (.iload 18, 2) := by decide +kernel
theorem dL_refuses_781 : decode cL_refuses 781 = .ok (.iload 11, 2) := by decide +kernel
theorem dL_refuses_783 : decode cL_refuses 783 = .ok (.iconst (-1), 1) := by decide +kernel
theorem dL_refuses_784 : decode cL_refuses 784 = .ok (.iconst 0, 1) := by decide +kernel
theorem dL_refuses_785 : decode cL_refuses 785 = .ok (.iconst 0, 1) := by decide +kernel
theorem dL_refuses_786 : decode cL_refuses 786 = .ok (.invokestatic 88, 3) := by decide +kernel
theorem dL_refuses_789 : decode cL_refuses 789 = .ok (.iload 6, 2) := by decide +kernel
theorem dL_refuses_791 : decode cL_refuses 791 = .ok (.if_icmp .ne 23, 3) := by decide +kernel
theorem dL_refuses_794 : decode cL_refuses 794 = .ok (.aload_n 0, 1) := by decide +kernel
theorem dL_refuses_795 : decode cL_refuses 795 = .ok (.iload 18, 2) := by decide +kernel
theorem dL_refuses_797 : decode cL_refuses 797 = .ok (.iconst 0, 1) := by decide +kernel
theorem dL_refuses_798 : decode cL_refuses 798 = .ok (.iload 14, 2) := by decide +kernel
theorem dL_refuses_800 : decode cL_refuses 800 = .ok (.iconst 0, 1) := by decide +kernel
theorem dL_refuses_801 : decode cL_refuses 801 = .ok (.iconst 0, 1) := by decide +kernel
theorem dL_refuses_802 : decode cL_refuses 802 = .ok (.invokestatic 88, 3) := by decide +kernel
theorem dL_refuses_805 : decode cL_refuses 805 = .ok (.iload 7, 2) := by decide +kernel
theorem dL_refuses_807 : decode cL_refuses 807 = .ok (.if_icmp .ne 7, 3) := by decide +kernel
theorem dL_refuses_810 : decode cL_refuses 810 = .ok (.iconst 1, 1) := by decide +kernel
theorem dL_refuses_811 : decode cL_refuses 811 = .ok (.goto 4, 3) := by decide +kernel
theorem dL_refuses_814 : decode cL_refuses 814 = .ok (.iconst 0, 1) := by decide +kernel
theorem dL_refuses_815 : decode cL_refuses 815 = .ok (.istore 17, 2) := by decide +kernel
theorem dL_refuses_817 : decode cL_refuses 817 = .ok (.iinc 18 1, 3) := by decide +kernel
theorem dL_refuses_820 : decode cL_refuses 820 = .ok (.goto (-68), 3) := by decide +kernel
theorem dL_refuses_823 : decode cL_refuses 823 = .ok (.iload 17, 2) := by decide +kernel
theorem dL_refuses_825 : decode cL_refuses 825 = .ok (.ifCond .eq 39, 3) := by decide +kernel
theorem dL_refuses_828 : decode cL_refuses 828 = .ok (.aload_n 0, 1) := by decide +kernel
theorem dL_refuses_829 : decode cL_refuses 829 = .ok (.bipush 17, 2) := by decide +kernel
theorem dL_refuses_831 : decode cL_refuses 831 = .ok (.iload 11, 2) := by decide +kernel
theorem dL_refuses_833 : decode cL_refuses 833 = .ok (.iconst 0, 1) := by decide +kernel
theorem dL_refuses_834 : decode cL_refuses 834 = .ok (.iconst 0, 1) := by decide +kernel
theorem dL_refuses_835 : decode cL_refuses 835 = .ok (.iconst 0, 1) := by decide +kernel
theorem dL_refuses_836 : decode cL_refuses 836 = .ok (.invokestatic 88, 3) := by decide +kernel
theorem dL_refuses_839 : decode cL_refuses 839 = .ok (.iload 6, 2) := by decide +kernel
theorem dL_refuses_841 : decode cL_refuses 841 = .ok (.if_icmp .ne 23, 3) := by decide +kernel
theorem dL_refuses_844 : decode cL_refuses 844 = .ok (.aload_n 0, 1) := by decide +kernel
theorem dL_refuses_845 : decode cL_refuses 845 = .ok (.bipush 18, 2) := by decide +kernel
theorem dL_refuses_847 : decode cL_refuses 847 = .ok (.iload 11, 2) := by decide +kernel
theorem dL_refuses_849 : decode cL_refuses 849 = .ok (.iconst 0, 1) := by decide +kernel
theorem dL_refuses_850 : decode cL_refuses 850 = .ok (.iconst 0, 1) := by decide +kernel
theorem dL_refuses_851 : decode cL_refuses 851 = .ok (.iconst 0, 1) := by decide +kernel
theorem dL_refuses_852 : decode cL_refuses 852 = .ok (.invokestatic 88, 3) := by decide +kernel
theorem dL_refuses_855 : decode cL_refuses 855 = .ok (.iload 6, 2) := by decide +kernel
theorem dL_refuses_857 : decode cL_refuses 857 = .ok (.if_icmp .ne 7, 3) := by decide +kernel
theorem dL_refuses_860 : decode cL_refuses 860 = .ok (.iconst 1, 1) := by decide +kernel
theorem dL_refuses_861 : decode cL_refuses 861 = .ok (.goto 4, 3) := by decide +kernel
theorem dL_refuses_864 : decode cL_refuses 864 = .ok (.iconst 0, 1) := by decide +kernel
theorem dL_refuses_865 : decode cL_refuses 865 = .ok (.istore 17, 2) := by decide +kernel
theorem dL_refuses_867 : decode cL_refuses 867 = .ok (.iload 17, 2) := by decide +kernel
theorem dL_refuses_869 : decode cL_refuses 869 = .ok (.ifCond .ne 5, 3) := by decide +kernel
theorem dL_refuses_872 : decode cL_refuses 872 = .ok (.iconst 0, 1) := by decide +kernel
theorem dL_refuses_873 : decode cL_refuses 873 = .ok (.ireturn, 1) := by decide +kernel
theorem dL_refuses_874 : decode cL_refuses 874 = .ok (.iinc 9 1, 3) := by decide +kernel
theorem dL_refuses_877 : decode cL_refuses 877 = .ok (.goto (-836), 3) := by decide +kernel
theorem dL_refuses_880 : decode cL_refuses 880 = .ok (.aload_n 0, 1) := by decide +kernel
theorem dL_refuses_881 : decode cL_refuses 881 = .ok (.invokevirtual 80, 3) := by decide +kernel
theorem dL_refuses_884 : decode cL_refuses 884 = .ok (.iload_n 2, 1) := by decide +kernel
theorem dL_refuses_885 : decode cL_refuses 885 = .ok (.if_icmp .ne 37, 3) := by decide +kernel
theorem dL_refuses_888 : decode cL_refuses 888 = .ok (.aload_n 0, 1) := by decide +kernel
theorem dL_refuses_889 : decode cL_refuses 889 = .ok (.invokevirtual 84, 3) := by decide +kernel
theorem dL_refuses_892 : decode cL_refuses 892 = .ok (.iload_n 3, 1) := by decide +kernel
theorem dL_refuses_893 : decode cL_refuses 893 = .ok (.if_icmp .ne 29, 3) := by decide +kernel
theorem dL_refuses_896 : decode cL_refuses 896 = .ok (.aload_n 0, 1) := by decide +kernel
theorem dL_refuses_897 : decode cL_refuses 897 = .ok (.iconst 0, 1) := by decide +kernel
theorem dL_refuses_898 : decode cL_refuses 898 = .ok (.iload_n 3, 1) := by decide +kernel
theorem dL_refuses_899 : decode cL_refuses 899 = .ok (.invokevirtual 59, 3) := by decide +kernel
theorem dL_refuses_902 : decode cL_refuses 902 = .ok (.iload 4, 2) := by decide +kernel
theorem dL_refuses_904 : decode cL_refuses 904 = .ok (.if_icmp .ne 18, 3) := by decide +kernel
theorem dL_refuses_907 : decode cL_refuses 907 = .ok (.aload_n 0, 1) := by decide +kernel
theorem dL_refuses_908 : decode cL_refuses 908 = .ok (.iconst 0, 1) := by decide +kernel
theorem dL_refuses_909 : decode cL_refuses 909 = .ok (.iload_n 3, 1) := by decide +kernel
theorem dL_refuses_910 : decode cL_refuses 910 = .ok (.invokevirtual 50, 3) := by decide +kernel
theorem dL_refuses_913 : decode cL_refuses 913 = .ok (.iload 5, 2) := by decide +kernel
theorem dL_refuses_915 : decode cL_refuses 915 = .ok (.if_icmp .ne 7, 3) := by decide +kernel
theorem dL_refuses_918 : decode cL_refuses 918 = .ok (.iconst 1, 1) := by decide +kernel
theorem dL_refuses_919 : decode cL_refuses 919 = .ok (.goto 4, 3) := by decide +kernel
theorem dL_refuses_922 : decode cL_refuses 922 = .ok (.iconst 0, 1) := by decide +kernel
theorem dL_refuses_923 : decode cL_refuses 923 = .ok (.ireturn, 1) := by decide +kernel
set_option maxRecDepth 20000 in
theorem ggL_premium_X6_premium : GoodIn wsL_premium wsX6_premium := goodIn_ca (goodIn_ca (goodIn_r _ [5, 6, 7, 8, 4, 9, 10, 11, 12, 13, 14, 15, 16, 17, 18, 19, 20, 21, 22, 23, 24, 25, 26, 27, 28, 29, 30, 31, 32, 33, 34, 35, 36, 37, 38, 39, 40, 41, 42, 43, 44, 45, 46, 47, 48, 49, 50, 51, 52, 53, 54, 55, 56, 57, 58, 59, 60, 61, 62, 63, 64, 65, 66, 67, 68, 69, 70, 71, 72, 73, 74, 75, 76, 77, 78, 79, 80, 81, 82, 83, 84, 85, 86, 87, 88, 89, 90, 91, 92, 93, 94, 95, 96, 97, 98, 99, 100, 101, 102, 103, 104, 105, 106, 107, 108, 109, 110, 111, 112, 113, 114, 115, 116, 117, 118, 119, 120, 121, 122, 123, 124, 125, 126, 127, 128, 129, 130, 131, 132, 133, 134, 135, 136, 137, 138, 139, 140, 141, 142, 143, 144, 145, 146, 147, 148, 149, 150, 151, 152, 161, 162, 163, 164, 165, 166, 167, 168, 169, 170, 171, 172, 173, 174, 175, 176, 177, 178, 179, 180, 181, 182, 183, 184, 185, 186, 187] (by decide +kernel) (by decide +kernel)) (goodIn_sub (fun _ h => List.mem_cons_of_mem _ (List.mem_append_left _ (List.mem_append_right _ h))) (by decide +kernel))) (goodIn_sub (fun _ h => List.mem_cons_of_mem _ (List.mem_append_right _ h)) (by decide +kernel))
set_option maxRecDepth 20000 in
theorem gL_premium_X6_premium : GoodIn wsL_premium (wsV RL 59 RX6 yX6_premium wsX6_premium) := goodIn_app (goodIn_of _ (by decide +kernel)) ggL_premium_X6_premium
set_option maxRecDepth 20000 in
theorem ggL_premium_X6_premiumByDays : GoodIn wsL_premium wsX6_premiumByDays := goodIn_ca (goodIn_ca (goodIn_r _ [156, 6, 7, 8, 4, 9, 10, 11, 12, 13, 14, 15, 16, 17, 18, 19, 20, 21, 22, 23, 24, 25, 26, 27, 28, 29, 30, 31, 32, 33, 34, 35, 36, 37, 38, 39, 40, 41, 42, 43, 44, 45, 46, 157, 158, 159, 160, 56, 57, 58, 59, 60, 61, 62, 63, 64, 65, 66, 67, 68, 69, 70, 71, 72, 73, 74, 75, 76, 77, 78, 79, 80, 81, 82, 83, 84, 85, 86, 87, 88, 89, 90, 91, 92, 93, 94, 95, 96, 97, 98, 99, 100, 101, 102, 103, 104, 105, 106, 107, 108, 109, 110, 111, 112, 113, 114, 115, 116, 117, 118, 119, 120, 121, 122, 123, 124, 125, 161, 162, 163, 164, 165, 166, 167, 168, 169, 170, 171, 172, 173, 174, 175, 176, 177, 178, 179, 180, 181, 182, 183, 184, 185] (by decide +kernel) (by decide +kernel)) (goodIn_sub (fun _ h => List.mem_cons_of_mem _ (List.mem_append_left _ (List.mem_append_right _ h))) (by decide +kernel))) (goodIn_sub (fun _ h => List.mem_cons_of_mem _ (List.mem_append_right _ h)) (by decide +kernel))
set_option maxRecDepth 20000 in
theorem gL_premium_X6_premiumByDays : GoodIn wsL_premium (wsV RL 62 RX6 yX6_premiumByDays wsX6_premiumByDays) := goodIn_app (goodIn_of _ (by decide +kernel)) ggL_premium_X6_premiumByDays
theorem dL_premium_0 : decode cL_premium 0 = .ok (.aload_n 0, 1) := by decide +kernel
theorem dL_premium_1 : decode cL_premium 1 = .ok (.iconst 0, 1) := by decide +kernel
theorem dL_premium_2 : decode cL_premium 2 = .ok (.iload_n 1, 1) := by decide +kernel
theorem dL_premium_3 : decode cL_premium 3 = .ok (.invokevirtual 59, 3) := by decide +kernel
theorem dL_premium_6 : decode cL_premium 6 = .ok (.iload_n 2, 1) := by decide +kernel
theorem dL_premium_7 : decode cL_premium 7 = .ok (.if_icmp .ne 17, 3) := by decide +kernel
theorem dL_premium_10 : decode cL_premium 10 = .ok (.aload_n 0, 1) := by decide +kernel
theorem dL_premium_11 : decode cL_premium 11 = .ok (.iconst 0, 1) := by decide +kernel
theorem dL_premium_12 : decode cL_premium 12 = .ok (.iload_n 1, 1) := by decide +kernel
theorem dL_premium_13 : decode cL_premium 13 = .ok (.invokevirtual 62, 3) := by decide +kernel
theorem dL_premium_16 : decode cL_premium 16 = .ok (.iload_n 2, 1) := by decide +kernel
theorem dL_premium_17 : decode cL_premium 17 = .ok (.if_icmp .ne 7, 3) := by decide +kernel
theorem dL_premium_20 : decode cL_premium 20 = .ok (.iconst 1, 1) := by decide +kernel
theorem dL_premium_21 : decode cL_premium 21 = .ok (.goto 4, 3) := by decide +kernel
theorem dL_premium_24 : decode cL_premium 24 = .ok (.iconst 0, 1) := by decide +kernel
theorem dL_premium_25 : decode cL_premium 25 = .ok (.ireturn, 1) := by decide +kernel
set_option maxRecDepth 20000 in
theorem ggL_segment_X6_segmentStart : GoodIn wsL_segment wsX6_segmentStart := goodIn_ca (goodIn_ca (goodIn_r _ [5, 6, 7, 8, 4, 9, 10, 11, 12, 13, 14, 15, 16, 17, 18, 19, 20, 21, 22, 23, 24, 25, 26, 27, 28, 29, 30, 31, 32, 33, 34, 35, 36, 37, 38, 39, 40, 41, 42, 43, 44, 45, 46, 47, 48, 49, 50, 51, 52, 53, 54, 55, 56, 57, 58, 59, 60, 61, 62, 63, 64, 65, 66, 67, 68, 69, 70, 71, 72, 73, 74, 75, 76, 77, 78, 79, 80, 81, 82, 83, 84, 85, 86, 87, 88, 89, 90, 91, 92, 93, 94, 95, 96, 97, 98, 99, 100, 101, 102, 103, 104, 105, 106, 107, 108, 109, 110, 111, 112, 113, 114, 115, 116, 117, 118, 119, 120, 121, 122, 123, 124, 125, 126, 127, 128, 129, 130, 131, 132, 133, 134, 135, 136, 137, 138, 139, 140, 157, 158, 159, 160, 161, 162, 163, 164, 165, 166, 167, 168, 169, 170, 171, 172, 173, 174, 175, 176, 177, 178, 179, 180, 181, 182, 183] (by decide +kernel) (by decide +kernel)) (goodIn_sub (fun _ h => List.mem_cons_of_mem _ (List.mem_append_left _ (List.mem_append_right _ h))) (by decide +kernel))) (goodIn_sub (fun _ h => List.mem_cons_of_mem _ (List.mem_append_right _ h)) (by decide +kernel))
set_option maxRecDepth 20000 in
theorem gL_segment_X6_segmentStart : GoodIn wsL_segment (wsV RL 53 RX6 yX6_segmentStart wsX6_segmentStart) := goodIn_app (goodIn_of _ (by decide +kernel)) ggL_segment_X6_segmentStart
set_option maxRecDepth 20000 in
theorem ggL_segment_X6_segmentPremium : GoodIn wsL_segment wsX6_segmentPremium := goodIn_ca (goodIn_ca (goodIn_r _ [144, 22, 6, 7, 8, 4, 9, 10, 11, 12, 13, 14, 15, 16, 17, 18, 19, 20, 21, 23, 24, 25, 26, 27, 28, 29, 30, 31, 32, 33, 34, 35, 36, 37, 38, 39, 40, 41, 42, 43, 44, 45, 46, 47, 48, 49, 50, 51, 52, 53, 54, 55, 56, 57, 58, 59, 60, 61, 62, 63, 64, 65, 66, 67, 68, 69, 70, 71, 72, 73, 74, 75, 76, 77, 78, 79, 80, 81, 82, 83, 84, 85, 86, 87, 88, 89, 90, 91, 92, 93, 94, 95, 96, 97, 98, 99, 100, 101, 102, 103, 104, 105, 106, 107, 108, 109, 110, 111, 112, 113, 114, 115, 116, 117, 118, 119, 120, 121, 122, 123, 124, 125, 126, 127, 128, 129, 130, 131, 132, 133, 134, 135, 136, 137, 138, 139, 140, 145, 146, 147, 148, 149, 150, 151, 152, 153, 154, 155, 156, 157, 158, 159, 160, 161, 162, 163, 164, 165, 166, 167, 168, 169, 170, 171, 172, 173, 174, 175, 176, 177, 178, 179, 180, 181, 182, 183] (by decide +kernel) (by decide +kernel)) (goodIn_sub (fun _ h => List.mem_cons_of_mem _ (List.mem_append_left _ (List.mem_append_right _ h))) (by decide +kernel))) (goodIn_sub (fun _ h => List.mem_cons_of_mem _ (List.mem_append_right _ h)) (by decide +kernel))
set_option maxRecDepth 20000 in
theorem gL_segment_X6_segmentPremium : GoodIn wsL_segment (wsV RL 56 RX6 yX6_segmentPremium wsX6_segmentPremium) := goodIn_app (goodIn_of _ (by decide +kernel)) ggL_segment_X6_segmentPremium
theorem dL_segment_0 : decode cL_segment 0 = .ok (.aload_n 0, 1) := by decide +kernel
theorem dL_segment_1 : decode cL_segment 1 = .ok (.iconst 0, 1) := by decide +kernel
theorem dL_segment_2 : decode cL_segment 2 = .ok (.iload_n 1, 1) := by decide +kernel
theorem dL_segment_3 : decode cL_segment 3 = .ok (.iload_n 2, 1) := by decide +kernel
theorem dL_segment_4 : decode cL_segment 4 = .ok (.invokevirtual 53, 3) := by decide +kernel
theorem dL_segment_7 : decode cL_segment 7 = .ok (.iload_n 3, 1) := by decide +kernel
theorem dL_segment_8 : decode cL_segment 8 = .ok (.if_icmp .ne 19, 3) := by decide +kernel
theorem dL_segment_11 : decode cL_segment 11 = .ok (.aload_n 0, 1) := by decide +kernel
theorem dL_segment_12 : decode cL_segment 12 = .ok (.iconst 0, 1) := by decide +kernel
theorem dL_segment_13 : decode cL_segment 13 = .ok (.iload_n 1, 1) := by decide +kernel
theorem dL_segment_14 : decode cL_segment 14 = .ok (.iload_n 2, 1) := by decide +kernel
theorem dL_segment_15 : decode cL_segment 15 = .ok (.invokevirtual 56, 3) := by decide +kernel
theorem dL_segment_18 : decode cL_segment 18 = .ok (.iload 4, 2) := by decide +kernel
theorem dL_segment_20 : decode cL_segment 20 = .ok (.if_icmp .ne 7, 3) := by decide +kernel
theorem dL_segment_23 : decode cL_segment 23 = .ok (.iconst 1, 1) := by decide +kernel
theorem dL_segment_24 : decode cL_segment 24 = .ok (.goto 4, 3) := by decide +kernel
theorem dL_segment_27 : decode cL_segment 27 = .ok (.iconst 0, 1) := by decide +kernel
theorem dL_segment_28 : decode cL_segment 28 = .ok (.ireturn, 1) := by decide +kernel
