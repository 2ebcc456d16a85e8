set_option maxRecDepth 20000 in
theorem ggL_rows_X6_init : GoodIn wsL_rows wsX6_init := goodIn_r _ [7, 8, 9, 10, 11, 12, 13, 14, 15, 16, 17, 18, 19, 20, 21, 22, 23, 24, 25, 26, 27, 28, 29, 30, 31, 32, 33, 34, 35, 36, 37, 38, 39, 40, 41, 42, 43, 44, 45, 46, 47, 48, 49, 50, 51, 52, 53, 54, 55, 56, 57, 58, 59, 60, 61, 62, 63, 64, 65, 66, 434, 435, 436, 428, 429, 430, 431, 432, 433, 437, 438, 439, 440, 441, 442, 443] (by decide +kernel) (by decide +kernel)
set_option maxRecDepth 20000 in
theorem gL_rows_X6_init : GoodIn wsL_rows (wsX6_init) := ggL_rows_X6_init
set_option maxRecDepth 20000 in
theorem ggL_rows_L_act : GoodIn wsL_rows wsL_act := goodIn_ca (goodIn_ca (goodIn_ca (goodIn_r _ [70, 71, 72, 73, 74, 75, 4, 76, 77, 78, 3, 79, 80, 81, 14, 82, 83, 84, 85, 86, 87, 88, 89, 90, 91, 92, 13, 93, 94, 95, 96, 97, 98, 9, 10, 99, 12, 100, 101, 102, 103, 30, 31, 32, 33, 34, 35, 36, 37, 38, 39, 40, 41, 42, 43, 104, 105, 106, 107, 108, 109, 110, 111, 112, 113, 114, 115, 116, 117, 118, 119, 120, 121, 122, 123, 124, 125, 126, 127, 128, 129, 130, 131, 132, 133, 134, 135, 136, 137, 55, 138, 139, 140, 141, 142, 143, 144, 145, 146, 147, 148, 149, 150, 151, 152, 153, 154, 155, 156, 157, 158, 19, 159, 160, 161, 162, 163, 164, 165, 166, 167, 168, 169, 170, 171, 172, 173, 18, 174, 51, 50, 52, 175, 176, 177, 178, 28, 179, 180, 181, 182, 183, 184, 185, 186, 187, 188, 189, 190, 191, 192, 193, 194, 195, 196, 197, 198, 199, 200, 201, 202, 203, 204, 205, 206, 207, 208, 15, 209, 210, 211, 212, 213, 214, 215, 216, 217, 218, 219, 220, 221, 222, 223, 224, 225, 226, 227, 228, 229, 230, 231, 232, 233, 234, 235, 236, 237, 238, 239, 240, 241, 242, 243, 244, 245, 246, 247, 248, 249, 250, 251, 252, 253, 254, 255, 256, 257, 258, 259, 260, 261, 262, 263, 264, 265, 266, 267, 268, 269, 270, 271, 272, 273, 274, 275, 276, 277, 278, 279, 280, 281, 282, 23, 283, 284, 285, 286, 287, 288, 289, 290, 291, 292, 293, 22, 294, 60, 61, 295, 54, 56, 296, 297, 298, 299, 300, 301, 302, 303, 304, 305, 306, 307, 308, 309, 310, 311, 312, 313, 314, 315, 316, 317, 318, 319, 320, 321, 322, 323, 324, 325, 326, 327, 328, 329, 330, 331, 332, 333, 334, 335, 336, 337, 338, 339, 340, 341, 342, 343, 344, 345, 27, 346, 347, 348, 349, 350, 351, 352, 26, 353, 65, 66, 354, 355, 356, 357, 358, 359, 360, 361, 362, 363, 364, 365, 366, 367, 368, 369, 370, 371, 372, 373, 374, 375, 376, 377, 378, 379, 380, 381, 382, 383, 384, 385, 386, 387, 388, 389, 390, 391, 392, 393, 394, 395, 396, 397, 398, 399, 400, 401, 402, 403, 404, 405, 406, 407, 408, 409, 410, 411, 412, 413, 414, 415, 428, 429, 430, 431, 432, 433, 444, 445, 446, 434, 435, 436, 437, 438, 439, 447, 448, 449, 450, 451, 452, 453, 454, 440, 441, 442, 443] (by decide +kernel) (by decide +kernel)) (goodIn_sub (fun _ h => List.mem_cons_of_mem _ (List.mem_append_left _ (List.mem_append_left _ (List.mem_append_right _ h)))) (by decide +kernel))) (goodIn_sub (fun _ h => List.mem_cons_of_mem _ (List.mem_append_left _ (List.mem_append_right _ h))) (by decide +kernel))) (goodIn_sub (fun _ h => List.mem_cons_of_mem _ (List.mem_append_right _ h)) (by decide +kernel))
set_option maxRecDepth 20000 in
theorem gL_rows_L_act : GoodIn wsL_rows (va_wsS RL 88 yL_act wsL_act) := goodIn_app (goodIn_of _ (by decide +kernel)) ggL_rows_L_act
set_option maxRecDepth 20000 in
theorem ggL_rows_X6_setWeight : GoodIn wsL_rows wsX6_setWeight := goodIn_ca (goodIn_ca (goodIn_ca (goodIn_r _ [158, 80, 81, 19, 159, 160, 161, 3, 162, 163, 164, 165, 166, 167, 85, 86, 87, 88, 89, 168, 169, 170, 171, 172, 173, 18, 174, 51, 50, 52, 428, 429, 430, 431, 432, 433, 437, 438, 439] (by decide +kernel) (by decide +kernel)) (goodIn_sub (fun _ h => List.mem_cons_of_mem _ (List.mem_append_left _ (List.mem_append_left _ (List.mem_append_right _ h)))) (by decide +kernel))) (goodIn_sub (fun _ h => List.mem_cons_of_mem _ (List.mem_append_right _ h)) (by decide +kernel))) (goodIn_sub (fun _ h => List.mem_cons_of_mem _ (List.mem_append_left _ (List.mem_append_right _ h))) (by decide +kernel))
set_option maxRecDepth 20000 in
theorem gL_rows_X6_setWeight : GoodIn wsL_rows (wsV RL 13 RX6 yX6_setWeight wsX6_setWeight) := goodIn_app (goodIn_of _ (by decide +kernel)) ggL_rows_X6_setWeight
set_option maxRecDepth 20000 in
theorem ggL_rows_X6_change : GoodIn wsL_rows wsX6_change := goodIn_ca (goodIn_ca (goodIn_ca (goodIn_r _ [182, 183, 184, 185, 186, 3, 187, 163, 164, 14, 188, 90, 91, 92, 13, 93, 94, 189, 190, 191, 192, 193, 194, 195, 196, 197, 198, 199, 200, 201, 202, 203, 204, 33, 160, 161, 162, 165, 166, 167, 168, 169, 170, 85, 86, 87, 88, 89, 205, 206, 207, 208, 80, 81, 15, 209, 210, 211, 28, 212, 213, 214, 215, 216, 9, 10, 217, 218, 219, 220, 221, 222, 223, 224, 104, 105, 106, 107, 108, 109, 110, 111, 112, 113, 114, 115, 116, 117, 118, 119, 120, 121, 32, 122, 123, 124, 125, 126, 127, 128, 129, 130, 131, 132, 133, 134, 135, 136, 137, 55, 138, 139, 140, 141, 142, 143, 144, 145, 146, 147, 148, 149, 150, 151, 152, 153, 154, 225, 226, 227, 84, 228, 100, 229, 230, 231, 232, 233, 234, 235, 236, 237, 238, 239, 240, 241, 428, 429, 430, 431, 432, 433, 434, 435, 436, 447, 448, 449, 450, 451, 452, 453, 454, 444, 445, 446] (by decide +kernel) (by decide +kernel)) (goodIn_sub (fun _ h => List.mem_cons_of_mem _ (List.mem_append_right _ h)) (by decide +kernel))) (goodIn_sub (fun _ h => List.mem_cons_of_mem _ (List.mem_append_left _ (List.mem_append_right _ h))) (by decide +kernel))) (goodIn_sub (fun _ h => List.mem_cons_of_mem _ (List.mem_append_left _ (List.mem_append_left _ (List.mem_append_right _ h)))) (by decide +kernel))
set_option maxRecDepth 20000 in
theorem gL_rows_X6_change : GoodIn wsL_rows (wsV RL 20 RX6 yX6_change wsX6_change) := goodIn_app (goodIn_of _ (by decide +kernel)) ggL_rows_X6_change
set_option maxRecDepth 20000 in
theorem ggL_rows_X6_rate : GoodIn wsL_rows wsX6_rate := goodIn_ca (goodIn_ca (goodIn_r _ [330, 184, 185, 186, 3, 187, 163, 164, 14, 188, 90, 91, 92, 13, 93, 94, 189, 190, 191, 192, 193, 194, 195, 196, 197, 198, 199, 200, 201, 202, 203, 204, 33, 168, 169, 170, 85, 86, 87, 88, 89, 283, 284, 285, 286, 28, 287, 288, 289, 290, 23, 291, 292, 293, 22, 294, 60, 61, 295, 54, 55, 56, 296, 297, 298, 299, 273, 300, 123, 124, 125, 267, 274, 275, 276, 277, 211, 278, 224, 217, 301, 302, 303, 304, 305, 306, 307, 308, 309, 310, 311, 149, 150, 312, 313, 314, 315, 316, 166, 167, 317, 318, 319, 320, 331, 332, 333, 334, 326, 335, 19, 321, 336, 337, 338, 18, 339, 50, 340, 341, 428, 429, 430, 431, 432, 433, 434, 435, 436, 440, 441, 444, 445, 446, 447, 448, 449, 450, 451, 452, 453, 454, 437, 438, 439] (by decide +kernel) (by decide +kernel)) (goodIn_sub (fun _ h => List.mem_cons_of_mem _ (List.mem_append_right _ h)) (by decide +kernel))) (goodIn_sub (fun _ h => List.mem_cons_of_mem _ (List.mem_append_left _ (List.mem_append_right _ h))) (by decide +kernel))
set_option maxRecDepth 20000 in
theorem gL_rows_X6_rate : GoodIn wsL_rows (wsV RL 47 RX6 yX6_rate wsX6_rate) := goodIn_app (goodIn_of _ (by decide +kernel)) ggL_rows_X6_rate
set_option maxRecDepth 20000 in
theorem ggL_rows_X6_add : GoodIn wsL_rows wsX6_add := goodIn_ca (goodIn_ca (goodIn_ca (goodIn_r _ [245, 246, 184, 185, 186, 3, 187, 163, 164, 14, 188, 90, 91, 92, 13, 93, 94, 189, 190, 191, 192, 193, 194, 195, 196, 197, 198, 199, 200, 201, 202, 203, 204, 33, 160, 161, 162, 165, 166, 167, 168, 169, 170, 85, 86, 87, 88, 89, 205, 206, 207, 208, 80, 81, 15, 209, 210, 211, 28, 212, 213, 214, 215, 216, 9, 10, 217, 218, 219, 220, 221, 222, 223, 224, 104, 105, 106, 107, 108, 109, 110, 111, 112, 113, 114, 115, 116, 117, 118, 119, 120, 121, 32, 122, 123, 124, 125, 126, 127, 128, 129, 130, 131, 132, 133, 134, 135, 136, 137, 55, 138, 139, 140, 141, 142, 143, 144, 145, 146, 147, 148, 149, 150, 151, 152, 153, 154, 225, 226, 227, 84, 228, 100, 229, 230, 231, 232, 233, 234, 235, 236, 237, 238, 239, 240, 241, 428, 429, 430, 431, 432, 433, 434, 435, 436, 447, 448, 449, 450, 451, 452, 453, 454, 444, 445, 446] (by decide +kernel) (by decide +kernel)) (goodIn_sub (fun _ h => List.mem_cons_of_mem _ (List.mem_append_right _ h)) (by decide +kernel))) (goodIn_sub (fun _ h => List.mem_cons_of_mem _ (List.mem_append_left _ (List.mem_append_right _ h))) (by decide +kernel))) (goodIn_sub (fun _ h => List.mem_cons_of_mem _ (List.mem_append_left _ (List.mem_append_left _ (List.mem_append_right _ h)))) (by decide +kernel))
set_option maxRecDepth 20000 in
theorem gL_rows_X6_add : GoodIn wsL_rows (wsV RL 24 RX6 yX6_add wsX6_add) := goodIn_app (goodIn_of _ (by decide +kernel)) ggL_rows_X6_add
set_option maxRecDepth 20000 in
theorem ggL_rows_X6_value : GoodIn wsL_rows wsX6_value := goodIn_ca (goodIn_ca (goodIn_r _ [282, 23, 184, 185, 186, 3, 187, 163, 164, 14, 188, 90, 91, 92, 13, 93, 94, 189, 190, 191, 192, 193, 194, 195, 196, 197, 198, 199, 200, 201, 202, 203, 204, 33, 160, 161, 162, 165, 166, 167, 168, 169, 170, 85, 86, 87, 88, 89, 283, 284, 285, 286, 28, 287, 288, 289, 290, 291, 292, 293, 22, 294, 60, 61, 295, 54, 55, 56, 296, 297, 298, 299, 273, 300, 123, 124, 125, 267, 274, 275, 276, 277, 211, 278, 224, 217, 301, 302, 303, 304, 305, 306, 307, 308, 309, 310, 311, 149, 150, 312, 313, 314, 315, 316, 317, 318, 319, 320, 321, 428, 429, 430, 431, 432, 433, 434, 435, 436, 440, 441, 444, 445, 446, 447, 448, 449, 450, 451, 452, 453, 454] (by decide +kernel) (by decide +kernel)) (goodIn_sub (fun _ h => List.mem_cons_of_mem _ (List.mem_append_right _ h)) (by decide +kernel))) (goodIn_sub (fun _ h => List.mem_cons_of_mem _ (List.mem_append_left _ (List.mem_append_right _ h))) (by decide +kernel))
set_option maxRecDepth 20000 in
theorem gL_rows_X6_value : GoodIn wsL_rows (wsV RL 40 RX6 yX6_value wsX6_value) := goodIn_app (goodIn_of _ (by decide +kernel)) ggL_rows_X6_value
set_option maxRecDepth 20000 in
theorem ggL_rows_X6_segments : GoodIn wsL_rows wsX6_segments := goodIn_ca (goodIn_ca (goodIn_r _ [345, 27, 184, 185, 186, 3, 187, 163, 164, 14, 188, 90, 91, 92, 13, 93, 94, 189, 190, 191, 192, 193, 194, 195, 196, 197, 198, 199, 200, 201, 202, 203, 204, 33, 283, 284, 285, 286, 28, 85, 86, 87, 88, 89, 346, 347, 348, 349, 23, 291, 292, 293, 22, 294, 60, 61, 295, 54, 55, 56, 296, 297, 298, 299, 273, 300, 123, 124, 125, 267, 274, 275, 276, 277, 211, 278, 224, 217, 301, 302, 303, 304, 305, 306, 307, 308, 309, 310, 311, 149, 150, 312, 313, 314, 315, 316, 166, 167, 317, 318, 319, 320, 331, 332, 333, 334, 326, 335, 19, 321, 336, 337, 338, 18, 339, 50, 340, 341, 350, 351, 352, 26, 353, 65, 66, 354, 355, 356, 357, 358, 359, 360, 361, 428, 429, 430, 431, 432, 433, 434, 435, 436, 440, 441, 444, 445, 446, 447, 448, 449, 450, 451, 452, 453, 454, 437, 438, 439, 442, 443] (by decide +kernel) (by decide +kernel)) (goodIn_sub (fun _ h => List.mem_cons_of_mem _ (List.mem_append_right _ h)) (by decide +kernel))) (goodIn_sub (fun _ h => List.mem_cons_of_mem _ (List.mem_append_left _ (List.mem_append_right _ h))) (by decide +kernel))
set_option maxRecDepth 20000 in
theorem gL_rows_X6_segments : GoodIn wsL_rows (wsV RL 50 RX6 yX6_segments wsX6_segments) := goodIn_app (goodIn_of _ (by decide +kernel)) ggL_rows_X6_segments
set_option maxRecDepth 20000 in
theorem ggL_rows_X6_segmentStart : GoodIn wsL_rows wsX6_segmentStart := goodIn_ca (goodIn_ca (goodIn_r _ [365, 283, 284, 285, 3, 286, 28, 85, 86, 87, 88, 89, 366, 367, 368, 369, 163, 164, 27, 184, 185, 186, 187, 14, 188, 90, 91, 92, 13, 93, 94, 189, 190, 191, 192, 193, 194, 195, 196, 197, 198, 199, 200, 201, 202, 203, 204, 33, 346, 347, 348, 349, 23, 291, 292, 293, 22, 294, 60, 61, 295, 54, 55, 56, 296, 297, 298, 299, 273, 300, 123, 124, 125, 267, 274, 275, 276, 277, 211, 278, 224, 217, 301, 302, 303, 304, 305, 306, 307, 308, 309, 310, 311, 149, 150, 312, 313, 314, 315, 316, 166, 167, 317, 318, 319, 320, 331, 332, 333, 334, 326, 335, 19, 321, 336, 337, 338, 18, 339, 50, 340, 341, 350, 351, 352, 26, 353, 65, 66, 370, 371, 372, 373, 358, 359, 360, 361, 428, 429, 430, 431, 432, 433, 434, 435, 436, 440, 441, 444, 445, 446, 447, 448, 449, 450, 451, 452, 453, 454, 437, 438, 439, 442, 443] (by decide +kernel) (by decide +kernel)) (goodIn_sub (fun _ h => List.mem_cons_of_mem _ (List.mem_append_left _ (List.mem_append_right _ h))) (by decide +kernel))) (goodIn_sub (fun _ h => List.mem_cons_of_mem _ (List.mem_append_right _ h)) (by decide +kernel))
set_option maxRecDepth 20000 in
theorem gL_rows_X6_segmentStart : GoodIn wsL_rows (wsV RL 53 RX6 yX6_segmentStart wsX6_segmentStart) := goodIn_app (goodIn_of _ (by decide +kernel)) ggL_rows_X6_segmentStart
set_option maxRecDepth 20000 in
theorem ggL_rows_X6_premium : GoodIn wsL_rows wsX6_premium := goodIn_ca (goodIn_ca (goodIn_r _ [393, 184, 185, 186, 3, 187, 163, 164, 14, 188, 90, 91, 92, 13, 93, 94, 189, 190, 191, 192, 193, 194, 195, 196, 197, 198, 199, 200, 201, 202, 203, 204, 33, 283, 284, 285, 286, 28, 85, 86, 87, 88, 89, 394, 395, 396, 397, 27, 346, 347, 348, 349, 23, 291, 292, 293, 22, 294, 60, 61, 295, 54, 55, 56, 296, 297, 298, 299, 273, 300, 123, 124, 125, 267, 274, 275, 276, 277, 211, 278, 224, 217, 301, 302, 303, 304, 305, 306, 307, 308, 309, 310, 311, 149, 150, 312, 313, 314, 315, 316, 166, 167, 317, 318, 319, 320, 331, 332, 333, 334, 326, 335, 19, 321, 336, 337, 338, 18, 339, 50, 340, 341, 350, 351, 352, 26, 353, 65, 66, 398, 399, 400, 401, 358, 359, 360, 361, 402, 379, 380, 381, 382, 383, 384, 385, 386, 387, 388, 389, 428, 429, 430, 431, 432, 433, 434, 435, 436, 440, 441, 444, 445, 446, 447, 448, 449, 450, 451, 452, 453, 454, 437, 438, 439, 442, 443] (by decide +kernel) (by decide +kernel)) (goodIn_sub (fun _ h => List.mem_cons_of_mem _ (List.mem_append_right _ h)) (by decide +kernel))) (goodIn_sub (fun _ h => List.mem_cons_of_mem _ (List.mem_append_left _ (List.mem_append_right _ h))) (by decide +kernel))
set_option maxRecDepth 20000 in
theorem gL_rows_X6_premium : GoodIn wsL_rows (wsV RL 59 RX6 yX6_premium wsX6_premium) := goodIn_app (goodIn_of _ (by decide +kernel)) ggL_rows_X6_premium
set_option maxRecDepth 20000 in
theorem ggL_rows_X6_premiumByDays : GoodIn wsL_rows wsX6_premiumByDays := goodIn_ca (goodIn_ca (goodIn_r _ [406, 184, 185, 186, 3, 187, 163, 164, 14, 188, 90, 91, 92, 13, 93, 94, 189, 190, 191, 192, 193, 194, 195, 196, 197, 198, 199, 200, 201, 202, 203, 204, 33, 283, 284, 285, 286, 28, 85, 86, 87, 88, 89, 287, 288, 289, 290, 23, 291, 292, 293, 22, 294, 60, 61, 295, 54, 55, 56, 296, 297, 298, 299, 273, 300, 123, 124, 125, 267, 274, 275, 276, 277, 211, 278, 224, 217, 301, 302, 303, 304, 305, 306, 307, 308, 309, 310, 311, 149, 150, 312, 313, 314, 315, 316, 166, 167, 317, 318, 319, 320, 331, 332, 333, 334, 326, 335, 19, 321, 336, 337, 338, 18, 339, 50, 340, 341, 428, 429, 430, 431, 432, 433, 434, 435, 436, 440, 441, 444, 445, 446, 447, 448, 449, 450, 451, 452, 453, 454, 437, 438, 439] (by decide +kernel) (by decide +kernel)) (goodIn_sub (fun _ h => List.mem_cons_of_mem _ (List.mem_append_right _ h)) (by decide +kernel))) (goodIn_sub (fun _ h => List.mem_cons_of_mem _ (List.mem_append_left _ (List.mem_append_right _ h))) (by decide +kernel))
set_option maxRecDepth 20000 in
theorem gL_rows_X6_premiumByDays : GoodIn wsL_rows (wsV RL 62 RX6 yX6_premiumByDays wsX6_premiumByDays) := goodIn_app (goodIn_of _ (by decide +kernel)) ggL_rows_X6_premiumByDays
set_option maxRecDepth 20000 in
theorem ggL_rows_X6_pass : GoodIn wsL_rows wsX6_pass := goodIn_ca (goodIn_r _ [178, 28, 85, 86, 3, 87, 88, 89, 428, 429, 430, 431, 432, 433] (by decide +kernel) (by decide +kernel)) (goodIn_sub (fun _ h => List.mem_cons_of_mem _ (List.mem_append_left _ (List.mem_append_right _ h))) (by decide +kernel))
set_option maxRecDepth 20000 in
theorem gL_rows_X6_pass : GoodIn wsL_rows (wsV RL 17 RX6 yX6_pass wsX6_pass) := goodIn_app (goodIn_of _ (by decide +kernel)) ggL_rows_X6_pass
set_option maxRecDepth 20000 in
theorem ggL_rows_X6_changes : GoodIn wsL_rows wsX6_changes := goodIn_r _ [419, 15, 90, 91, 92, 13, 93, 94, 428, 429, 430, 431, 432, 433, 434, 435, 436] (by decide +kernel) (by decide +kernel)
set_option maxRecDepth 20000 in
theorem gL_rows_X6_changes : GoodIn wsL_rows (wsV RL 80 RX6 yX6_changes wsX6_changes) := goodIn_app (goodIn_of _ (by decide +kernel)) ggL_rows_X6_changes
set_option maxRecDepth 20000 in
theorem ggL_rows_X6_takeBack : GoodIn wsL_rows wsX6_takeBack := goodIn_ca (goodIn_ca (goodIn_r _ [260, 80, 81, 261, 28, 262, 263, 264, 265, 3, 266, 163, 164, 15, 267, 90, 91, 92, 13, 93, 94, 189, 190, 191, 192, 193, 194, 195, 196, 197, 198, 199, 200, 201, 202, 203, 204, 33, 447, 448, 449, 450, 451, 452, 453, 454, 428, 429, 430, 431, 432, 433, 434, 435, 436] (by decide +kernel) (by decide +kernel)) (goodIn_sub (fun _ h => List.mem_cons_of_mem _ (List.mem_append_left _ (List.mem_append_left _ (List.mem_append_right _ h)))) (by decide +kernel))) (goodIn_sub (fun _ h => List.mem_cons_of_mem _ (List.mem_append_right _ h)) (by decide +kernel))
set_option maxRecDepth 20000 in
theorem gL_rows_X6_takeBack : GoodIn wsL_rows (wsV RL 34 RX6 yX6_takeBack wsX6_takeBack) := goodIn_app (goodIn_of _ (by decide +kernel)) ggL_rows_X6_takeBack
set_option maxRecDepth 20000 in
theorem ggL_rows_X6_bill : GoodIn wsL_rows wsX6_bill := goodIn_ca (goodIn_r _ [410, 28, 411, 184, 185, 186, 3, 187, 163, 164, 14, 188, 90, 91, 92, 13, 93, 94, 189, 190, 191, 192, 193, 194, 195, 196, 197, 198, 199, 200, 201, 202, 203, 204, 33, 394, 395, 396, 397, 27, 346, 347, 348, 349, 23, 291, 292, 293, 22, 294, 60, 61, 295, 54, 55, 56, 296, 297, 298, 299, 273, 300, 123, 124, 125, 267, 274, 275, 276, 277, 211, 278, 224, 217, 301, 302, 303, 304, 305, 306, 307, 308, 309, 310, 311, 149, 150, 312, 313, 314, 315, 316, 166, 167, 317, 318, 319, 320, 331, 332, 333, 334, 326, 335, 19, 321, 336, 337, 338, 18, 339, 50, 340, 341, 350, 351, 352, 26, 353, 65, 66, 398, 399, 400, 401, 358, 359, 360, 361, 402, 379, 380, 381, 382, 383, 384, 385, 386, 387, 388, 389, 428, 429, 430, 431, 432, 433, 444, 445, 446, 434, 435, 436, 440, 441, 447, 448, 449, 450, 451, 452, 453, 454, 437, 438, 439, 442, 443] (by decide +kernel) (by decide +kernel)) (goodIn_sub (fun _ h => List.mem_cons_of_mem _ (List.mem_append_right _ h)) (by decide +kernel))
set_option maxRecDepth 20000 in
theorem gL_rows_X6_bill : GoodIn wsL_rows (wsV RL 65 RX6 yX6_bill wsX6_bill) := goodIn_app (goodIn_of _ (by decide +kernel)) ggL_rows_X6_bill
set_option maxRecDepth 20000 in
theorem ggL_rows_X6_billed : GoodIn wsL_rows wsX6_billed := goodIn_ca (goodIn_r _ [415, 411, 184, 185, 186, 3, 187, 163, 164, 14, 188, 90, 91, 92, 13, 93, 94, 189, 190, 191, 192, 193, 194, 195, 196, 197, 198, 199, 200, 201, 202, 203, 204, 33, 444, 445, 446, 428, 429, 430, 431, 432, 433, 434, 435, 436] (by decide +kernel) (by decide +kernel)) (goodIn_sub (fun _ h => List.mem_cons_of_mem _ (List.mem_append_right _ h)) (by decide +kernel))
set_option maxRecDepth 20000 in
theorem gL_rows_X6_billed : GoodIn wsL_rows (wsV RL 68 RX6 yX6_billed wsX6_billed) := goodIn_app (goodIn_of _ (by decide +kernel)) ggL_rows_X6_billed
set_option maxRecDepth 20000 in
theorem ggL_rows_L_refuses : GoodIn wsL_rows wsL_refuses := goodIn_hd 422 rfl rfl (goodIn_app (goodIn_app (goodIn_app (goodIn_app (goodIn_app (goodIn_app (goodIn_app (goodIn_app (goodIn_app (goodIn_app (goodIn_app (goodIn_r wsL_refuses_r1 [74, 75, 423, 416, 417, 418, 3, 419, 15, 90, 91, 92, 13, 93, 94, 424, 425, 426, 427, 28, 390, 391, 392, 393] (by decide +kernel) (by decide +kernel)) (goodIn_app (goodIn_r wsL_refuses_r2 [184, 185, 186, 187, 163, 164, 14, 188, 189, 190, 191, 192, 193, 194, 195, 196, 197, 198, 199, 200, 201, 202, 203, 204] (by decide +kernel) (by decide +kernel)) (goodIn_app (goodIn_r wsL_refuses_r3 [33, 283, 284, 285, 286, 85, 86, 87, 88, 89, 394, 395, 396, 397, 27, 346, 347, 348, 349, 23, 291, 292, 293, 22] (by decide +kernel) (by decide +kernel)) (goodIn_app (goodIn_r wsL_refuses_r4 [294, 60, 61, 295, 54, 55, 56, 296, 297, 298, 299, 273, 300, 123, 124, 125, 267, 274, 275, 276, 277, 211, 278, 224] (by decide +kernel) (by decide +kernel)) (goodIn_app (goodIn_r wsL_refuses_r5 [217, 301, 302, 303, 304, 305, 306, 307, 308, 309, 310, 311, 149, 150, 312, 313, 314, 315, 316, 166, 167, 317, 318, 319] (by decide +kernel) (by decide +kernel)) (goodIn_app (goodIn_r wsL_refuses_r6 [320, 331, 332, 333, 334, 326, 335, 19, 321, 336, 337, 338, 18, 339, 50, 340, 341, 350, 351, 352, 26, 353, 65, 66] (by decide +kernel) (by decide +kernel)) (goodIn_app (goodIn_r wsL_refuses_r7 [398, 399, 400, 401, 358, 359, 360, 361, 402, 379, 380, 381, 382, 383, 384, 385, 386, 387, 388, 389, 342, 343, 344, 345] (by decide +kernel) (by decide +kernel)) (goodIn_app (goodIn_r wsL_refuses_r8 [354, 355, 356, 357, 67, 68, 69, 70, 71, 72, 73, 4, 76, 77, 78, 79, 80, 81, 82, 83, 84, 95, 96, 97] (by decide +kernel) (by decide +kernel)) (goodIn_app (goodIn_r wsL_refuses_r9 [98, 9, 10, 99, 12, 100, 101, 102, 103, 30, 31, 32, 34, 35, 36, 37, 38, 39, 40, 41, 42, 43, 104, 105] (by decide +kernel) (by decide +kernel)) (goodIn_app (goodIn_r wsL_refuses_r10 [106, 107, 108, 109, 110, 111, 112, 113, 114, 115, 116, 117, 118, 119, 120, 121, 122, 126, 127, 128, 129, 130, 131, 132] (by decide +kernel) (by decide +kernel)) (goodIn_app (goodIn_r wsL_refuses_r11 [133, 134, 135, 136, 137, 138, 139, 140, 141, 142, 143, 144, 145, 146, 147, 148, 151, 152, 153, 154, 155, 156, 157, 158] (by decide +kernel) (by decide +kernel)) (goodIn_app (goodIn_r wsL_refuses_r12 [159, 160, 161, 162, 165, 168, 169, 170, 171, 172, 173, 174, 51, 52, 175, 176, 177, 178, 179, 180, 181, 182, 183, 205] (by decide +kernel) (by decide +kernel)) (goodIn_app (goodIn_r wsL_refuses_r13 [206, 207, 208, 209, 210, 212, 213, 214, 215, 216, 218, 219, 220, 221, 222, 223, 225, 226, 227, 228, 229, 230, 231, 232] (by decide +kernel) (by decide +kernel)) (goodIn_app (goodIn_r wsL_refuses_r14 [233, 234, 235, 236, 237, 238, 239, 240, 241, 242, 243, 244, 245, 246, 247, 248, 249, 250, 251, 252, 253, 254, 255, 256] (by decide +kernel) (by decide +kernel)) (goodIn_app (goodIn_r wsL_refuses_r15 [257, 258, 259, 260, 261, 262, 263, 264, 265, 266, 268, 269, 270, 271, 272, 279, 280, 281, 282, 287, 288, 289, 290, 322] (by decide +kernel) (by decide +kernel)) (goodIn_app (goodIn_r wsL_refuses_r16 [323, 324, 325, 327, 328, 329, 330, 362, 363, 364, 365, 366, 367, 368, 369, 370, 371, 372, 373, 374, 375, 376, 377, 378] (by decide +kernel) (by decide +kernel)) (goodIn_r wsL_refuses_r17 [403, 404, 405, 406, 407, 408, 409, 410, 411, 412, 413, 414, 415] (by decide +kernel) (by decide +kernel)))))))))))))))))) (goodIn_r wsX60 [428, 429, 430, 431, 432, 433] (by decide +kernel) (by decide +kernel))) (goodIn_r wsJx4a65c0 [434, 435, 436] (by decide +kernel) (by decide +kernel))) (goodIn_r wsX40 [440, 441] (by decide +kernel) (by decide +kernel))) (goodIn_r wsX20 [444, 445, 446] (by decide +kernel) (by decide +kernel))) (goodIn_r wsX00 [447, 448, 449, 450, 451, 452, 453, 454] (by decide +kernel) (by decide +kernel))) (goodIn_r wsX30 [437, 438, 439] (by decide +kernel) (by decide +kernel))) (goodIn_r wsX50 [442, 443] (by decide +kernel) (by decide +kernel))) (goodIn_sub (fun _ h => List.mem_cons_of_mem _ (List.mem_append_right _ h)) (by decide +kernel))) (goodIn_sub (fun _ h => List.mem_cons_of_mem _ (List.mem_append_left _ (List.mem_append_right _ h))) (by decide +kernel))) (goodIn_sub (fun _ h => List.mem_cons_of_mem _ (List.mem_append_left _ (List.mem_append_left _ (List.mem_append_right _ h)))) (by decide +kernel)))
set_option maxRecDepth 20000 in
theorem gL_rows_L_refuses : GoodIn wsL_rows (va_wsS RL 102 yL_refuses wsL_refuses) := goodIn_app (goodIn_of _ (by decide +kernel)) ggL_rows_L_refuses
theorem dL_rows_0 : decode cL_rows 0 = .ok (.new 8, 3) := by decide +kernel
theorem dL_rows_3 : decode cL_rows 3 = .ok (.dup, 1) := by decide +kernel
theorem dL_rows_4 : decode cL_rows 4 = .ok (.invokespecial 94, 3) := by decide +kernel
theorem dL_rows_7 : decode cL_rows 7 = .ok (.astore_n 0, 1) := by decide +kernel
theorem dL_rows_8 : decode cL_rows 8 = .ok (.iconst 0, 1) := by decide +kernel
theorem dL_rows_9 : decode cL_rows 9 = .ok (.istore_n 1, 1) := by decide +kernel
theorem dL_rows_10 : decode cL_rows 10 = .ok (.iload_n 1, 1) := by decide +kernel
theorem dL_rows_11 : decode cL_rows 11 = .ok (.iconst 5, 1) := by decide +kernel
theorem dL_rows_12 : decode cL_rows 12 = .ok (.if_icmp .ge 38, 3) := by decide +kernel
theorem dL_rows_15 : decode cL_rows 15 = .ok (.aload_n 0, 1) := by decide +kernel
theorem dL_rows_16 : decode cL_rows 16 = .ok (.iconst 0, 1) := by decide +kernel
theorem dL_rows_17 : decode cL_rows 17 = .ok (.sipush 1000, 3) := by decide +kernel
theorem dL_rows_20 : decode cL_rows 20 = .ok (.iload_n 1, 1) := by decide +kernel
theorem dL_rows_21 : decode cL_rows 21 = .ok (.isub, 1) := by decide +kernel
theorem dL_rows_22 : decode cL_rows 22 = .ok (.iconst 0, 1) := by decide +kernel
theorem dL_rows_23 : decode cL_rows 23 = .ok (.iconst 0, 1) := by decide +kernel
theorem dL_rows_24 : decode cL_rows 24 = .ok (.iconst 0, 1) := by decide +kernel
theorem dL_rows_25 : decode cL_rows 25 = .ok (.invokestatic 88, 3) := by decide +kernel
theorem dL_rows_28 : decode cL_rows 28 = .ok (.iload_n 1, 1) := by decide +kernel
theorem dL_rows_29 : decode cL_rows 29 = .ok (.iconst 4, 1) := by decide +kernel
theorem dL_rows_30 : decode cL_rows 30 = .ok (.if_icmp .ge 7, 3) := by decide +kernel
theorem dL_rows_33 : decode cL_rows 33 = .ok (.iload_n 1, 1) := by decide +kernel
theorem dL_rows_34 : decode cL_rows 34 = .ok (.goto 5, 3) := by decide +kernel
theorem dL_rows_37 : decode cL_rows 37 = .ok (.ldc 79, 2) := by decide +kernel
theorem dL_rows_39 : decode cL_rows 39 = .ok (.if_icmp .eq 5, 3) := by decide +kernel
theorem dL_rows_42 : decode cL_rows 42 = .ok (.iconst 0, 1) := by decide +kernel
theorem dL_rows_43 : decode cL_rows 43 = .ok (.ireturn, 1) := by decide +kernel
theorem dL_rows_44 : decode cL_rows 44 = .ok (.iinc 1 1, 3) := by decide +kernel
theorem dL_rows_47 : decode cL_rows 47 = .ok (.goto (-37), 3) := by decide +kernel
theorem dL_rows_50 : decode cL_rows 50 = .ok (.aload_n 0, 1) := by decide +kernel
theorem dL_rows_51 : decode cL_rows 51 = .ok (.iconst 1, 1) := by decide +kernel
theorem dL_rows_52 : decode cL_rows 52 = .ok (.bipush 100, 2) := by decide +kernel
theorem dL_rows_54 : decode cL_rows 54 = .ok (.bipush 10, 2) := by decide +kernel
theorem dL_rows_56 : decode cL_rows 56 = .ok (.invokevirtual 13, 3) := by decide +kernel
theorem dL_rows_59 : decode cL_rows 59 = .ok (.iconst 1, 1) := by decide +kernel
theorem dL_rows_60 : decode cL_rows 60 = .ok (.if_icmp .ne 263, 3) := by decide +kernel
theorem dL_rows_63 : decode cL_rows 63 = .ok (.aload_n 0, 1) := by decide +kernel
theorem dL_rows_64 : decode cL_rows 64 = .ok (.iconst 1, 1) := by decide +kernel
theorem dL_rows_65 : decode cL_rows 65 = .ok (.bipush 50, 2) := by decide +kernel
theorem dL_rows_67 : decode cL_rows 67 = .ok (.bipush 10, 2) := by decide +kernel
theorem dL_rows_69 : decode cL_rows 69 = .ok (.invokevirtual 13, 3) := by decide +kernel
theorem dL_rows_72 : decode cL_rows 72 = .ok (.iconst 2, 1) := by decide +kernel
theorem dL_rows_73 : decode cL_rows 73 = .ok (.if_icmp .ne 250, 3) := by decide +kernel
theorem dL_rows_76 : decode cL_rows 76 = .ok (.aload_n 0, 1) := by decide +kernel
theorem dL_rows_77 : decode cL_rows 77 = .ok (.iconst 1, 1) := by decide +kernel
theorem dL_rows_78 : decode cL_rows 78 = .ok (.bipush 7, 2) := by decide +kernel
theorem dL_rows_80 : decode cL_rows 80 = .ok (.iconst 5, 1) := by decide +kernel
theorem dL_rows_81 : decode cL_rows 81 = .ok (.invokevirtual 13, 3) := by decide +kernel
theorem dL_rows_84 : decode cL_rows 84 = .ok (.iconst 3, 1) := by decide +kernel
theorem dL_rows_85 : decode cL_rows 85 = .ok (.if_icmp .ne 238, 3) := by decide +kernel
theorem dL_rows_88 : decode cL_rows 88 = .ok (.aload_n 0, 1) := by decide +kernel
theorem dL_rows_89 : decode cL_rows 89 = .ok (.iconst 3, 1) := by decide +kernel
theorem dL_rows_90 : decode cL_rows 90 = .ok (.iconst 1, 1) := by decide +kernel
theorem dL_rows_91 : decode cL_rows 91 = .ok (.iconst 0, 1) := by decide +kernel
theorem dL_rows_92 : decode cL_rows 92 = .ok (.bipush 20, 2) := by decide +kernel
theorem dL_rows_94 : decode cL_rows 94 = .ok (.invokevirtual 20, 3) := by decide +kernel
theorem dL_rows_97 : decode cL_rows 97 = .ok (.ifCond .ne 226, 3) := by decide +kernel
theorem dL_rows_100 : decode cL_rows 100 = .ok (.aload_n 0, 1) := by decide +kernel
theorem dL_rows_101 : decode cL_rows 101 = .ok (.iconst 3, 1) := by decide +kernel
theorem dL_rows_102 : decode cL_rows 102 = .ok (.iconst 4, 1) := by decide +kernel
theorem dL_rows_103 : decode cL_rows 103 = .ok (.iconst 0, 1) := by decide +kernel
theorem dL_rows_104 : decode cL_rows 104 = .ok (.invokevirtual 47, 3) := by decide +kernel
theorem dL_rows_107 : decode cL_rows 107 = .ok (.sipush 1017, 3) := by decide +kernel
theorem dL_rows_110 : decode cL_rows 110 = .ok (.if_icmp .ne 213, 3) := by decide +kernel
theorem dL_rows_113 : decode cL_rows 113 = .ok (.aload_n 0, 1) := by decide +kernel
theorem dL_rows_114 : decode cL_rows 114 = .ok (.iconst 3, 1) := by decide +kernel
theorem dL_rows_115 : decode cL_rows 115 = .ok (.iconst 5, 1) := by decide +kernel
theorem dL_rows_116 : decode cL_rows 116 = .ok (.iconst 0, 1) := by decide +kernel
theorem dL_rows_117 : decode cL_rows 117 = .ok (.invokevirtual 47, 3) := by decide +kernel
theorem dL_rows_120 : decode cL_rows 120 = .ok (.sipush 1137, 3) := by decide +kernel
theorem dL_rows_123 : decode cL_rows 123 = .ok (.if_icmp .ne 200, 3) := by decide +kernel
theorem dL_rows_126 : decode cL_rows 126 = .ok (.aload_n 0, 1) := by decide +kernel
theorem dL_rows_127 : decode cL_rows 127 = .ok (.iconst 3, 1) := by decide +kernel
theorem dL_rows_128 : decode cL_rows 128 = .ok (.bipush 9, 2) := by decide +kernel
theorem dL_rows_130 : decode cL_rows 130 = .ok (.iconst 0, 1) := by decide +kernel
theorem dL_rows_131 : decode cL_rows 131 = .ok (.invokevirtual 47, 3) := by decide +kernel
theorem dL_rows_134 : decode cL_rows 134 = .ok (.sipush 1137, 3) := by decide +kernel
theorem dL_rows_137 : decode cL_rows 137 = .ok (.if_icmp .ne 186, 3) := by decide +kernel
theorem dL_rows_140 : decode cL_rows 140 = .ok (.aload_n 0, 1) := by decide +kernel
theorem dL_rows_141 : decode cL_rows 141 = .ok (.iconst 3, 1) := by decide +kernel
theorem dL_rows_142 : decode cL_rows 142 = .ok (.bipush 10, 2) := by decide +kernel
theorem dL_rows_144 : decode cL_rows 144 = .ok (.iconst 0, 1) := by decide +kernel
theorem dL_rows_145 : decode cL_rows 145 = .ok (.invokevirtual 47, 3) := by decide +kernel
theorem dL_rows_148 : decode cL_rows 148 = .ok (.sipush 1997, 3) := by decide +kernel
theorem dL_rows_151 : decode cL_rows 151 = .ok (.if_icmp .ne 172, 3) := by decide +kernel
theorem dL_rows_154 : decode cL_rows 154 = .ok (.aload_n 0, 1) := by decide +kernel
theorem dL_rows_155 : decode cL_rows 155 = .ok (.iconst 2, 1) := by decide +kernel
theorem dL_rows_156 : decode cL_rows 156 = .ok (.bipush 10, 2) := by decide +kernel
theorem dL_rows_158 : decode cL_rows 158 = .ok (.iconst 0, 1) := by decide +kernel
theorem dL_rows_159 : decode cL_rows 159 = .ok (.invokevirtual 47, 3) := by decide +kernel
theorem dL_rows_162 : decode cL_rows 162 = .ok (.sipush 998, 3) := by decide +kernel
theorem dL_rows_165 : decode cL_rows 165 = .ok (.if_icmp .ne 158, 3) := by decide +kernel
theorem dL_rows_168 : decode cL_rows 168 = .ok (.aload_n 0, 1) := by decide +kernel
theorem dL_rows_169 : decode cL_rows 169 = .ok (.iconst 3, 1) := by decide +kernel
theorem dL_rows_170 : decode cL_rows 170 = .ok (.iconst 1, 1) := by decide +kernel
theorem dL_rows_171 : decode cL_rows 171 = .ok (.bipush 10, 2) := by decide +kernel
theorem dL_rows_173 : decode cL_rows 173 = .ok (.bipush 20, 2) := by decide +kernel
theorem dL_rows_175 : decode cL_rows 175 = .ok (.invokevirtual 24, 3) := by decide +kernel
theorem dL_rows_178 : decode cL_rows 178 = .ok (.iconst 1, 1) := by decide +kernel
theorem dL_rows_179 : decode cL_rows 179 = .ok (.if_icmp .ne 144, 3) := by decide +kernel
theorem dL_rows_182 : decode cL_rows 182 = .ok (.aload_n 0, 1) := by decide +kernel
theorem dL_rows_183 : decode cL_rows 183 = .ok (.iconst 3, 1) := by decide +kernel
theorem dL_rows_184 : decode cL_rows 184 = .ok (.iconst 1, 1) := by decide +kernel
theorem dL_rows_185 : decode cL_rows 185 = .ok (.bipush 10, 2) := by decide +kernel
theorem dL_rows_187 : decode cL_rows 187 = .ok (.iconst 0, 1) := by decide +kernel
theorem dL_rows_188 : decode cL_rows 188 = .ok (.invokevirtual 40, 3) := by decide +kernel
theorem dL_rows_191 : decode cL_rows 191 = .ok (.bipush 20, 2) := by decide +kernel
theorem dL_rows_193 : decode cL_rows 193 = .ok (.if_icmp .ne 130, 3) := by decide +kernel
theorem dL_rows_196 : decode cL_rows 196 = .ok (.aload_n 0, 1) := by decide +kernel
theorem dL_rows_197 : decode cL_rows 197 = .ok (.iconst 3, 1) := by decide +kernel
theorem dL_rows_198 : decode cL_rows 198 = .ok (.iconst 1, 1) := by decide +kernel
theorem dL_rows_199 : decode cL_rows 199 = .ok (.bipush 10, 2) := by decide +kernel
theorem dL_rows_201 : decode cL_rows 201 = .ok (.bipush (-20), 2) := by decide +kernel
theorem dL_rows_203 : decode cL_rows 203 = .ok (.invokevirtual 24, 3) := by decide +kernel
theorem dL_rows_206 : decode cL_rows 206 = .ok (.iconst 2, 1) := by decide +kernel
theorem dL_rows_207 : decode cL_rows 207 = .ok (.if_icmp .ne 116, 3) := by decide +kernel
theorem dL_rows_210 : decode cL_rows 210 = .ok (.aload_n 0, 1) := by decide +kernel
theorem dL_rows_211 : decode cL_rows 211 = .ok (.iconst 3, 1) := by decide +kernel
theorem dL_rows_212 : decode cL_rows 212 = .ok (.iconst 1, 1) := by decide +kernel
theorem dL_rows_213 : decode cL_rows 213 = .ok (.bipush 10, 2) := by decide +kernel
theorem dL_rows_215 : decode cL_rows 215 = .ok (.iconst 0, 1) := by decide +kernel
theorem dL_rows_216 : decode cL_rows 216 = .ok (.invokevirtual 40, 3) := by decide +kernel
theorem dL_rows_219 : decode cL_rows 219 = .ok (.ifCond .ne 104, 3) := by decide +kernel
theorem dL_rows_222 : decode cL_rows 222 = .ok (.aload_n 0, 1) := by decide +kernel
theorem dL_rows_223 : decode cL_rows 223 = .ok (.iconst 3, 1) := by decide +kernel
theorem dL_rows_224 : decode cL_rows 224 = .ok (.iconst 1, 1) := by decide +kernel
theorem dL_rows_225 : decode cL_rows 225 = .ok (.bipush 11, 2) := by decide +kernel
theorem dL_rows_227 : decode cL_rows 227 = .ok (.iconst (-1), 1) := by decide +kernel
theorem dL_rows_228 : decode cL_rows 228 = .ok (.invokevirtual 24, 3) := by decide +kernel
theorem dL_rows_231 : decode cL_rows 231 = .ok (.iconst 3, 1) := by decide +kernel
theorem dL_rows_232 : decode cL_rows 232 = .ok (.if_icmp .ne 91, 3) := by decide +kernel
theorem dL_rows_235 : decode cL_rows 235 = .ok (.aload_n 0, 1) := by decide +kernel
theorem dL_rows_236 : decode cL_rows 236 = .ok (.iconst 3, 1) := by decide +kernel
theorem dL_rows_237 : decode cL_rows 237 = .ok (.iconst 1, 1) := by decide +kernel
theorem dL_rows_238 : decode cL_rows 238 = .ok (.bipush 12, 2) := by decide +kernel
theorem dL_rows_240 : decode cL_rows 240 = .ok (.iconst 3, 1) := by decide +kernel
theorem dL_rows_241 : decode cL_rows 241 = .ok (.invokevirtual 24, 3) := by decide +kernel
theorem dL_rows_244 : decode cL_rows 244 = .ok (.iconst 4, 1) := by decide +kernel
theorem dL_rows_245 : decode cL_rows 245 = .ok (.if_icmp .ne 78, 3) := by decide +kernel
theorem dL_rows_248 : decode cL_rows 248 = .ok (.aload_n 0, 1) := by decide +kernel
theorem dL_rows_249 : decode cL_rows 249 = .ok (.iconst 3, 1) := by decide +kernel
theorem dL_rows_250 : decode cL_rows 250 = .ok (.iconst 1, 1) := by decide +kernel
theorem dL_rows_251 : decode cL_rows 251 = .ok (.bipush 12, 2) := by decide +kernel
theorem dL_rows_253 : decode cL_rows 253 = .ok (.iconst 0, 1) := by decide +kernel
theorem dL_rows_254 : decode cL_rows 254 = .ok (.invokevirtual 40, 3) := by decide +kernel
theorem dL_rows_257 : decode cL_rows 257 = .ok (.iconst 3, 1) := by decide +kernel
theorem dL_rows_258 : decode cL_rows 258 = .ok (.if_icmp .ne 65, 3) := by decide +kernel
theorem dL_rows_261 : decode cL_rows 261 = .ok (.aload_n 0, 1) := by decide +kernel
theorem dL_rows_262 : decode cL_rows 262 = .ok (.iconst 2, 1) := by decide +kernel
theorem dL_rows_263 : decode cL_rows 263 = .ok (.iconst 0, 1) := by decide +kernel
theorem dL_rows_264 : decode cL_rows 264 = .ok (.iconst 0, 1) := by decide +kernel
theorem dL_rows_265 : decode cL_rows 265 = .ok (.invokevirtual 13, 3) := by decide +kernel
theorem dL_rows_268 : decode cL_rows 268 = .ok (.iconst 4, 1) := by decide +kernel
theorem dL_rows_269 : decode cL_rows 269 = .ok (.if_icmp .ne 54, 3) := by decide +kernel
theorem dL_rows_272 : decode cL_rows 272 = .ok (.aload_n 0, 1) := by decide +kernel
theorem dL_rows_273 : decode cL_rows 273 = .ok (.iconst 3, 1) := by decide +kernel
theorem dL_rows_274 : decode cL_rows 274 = .ok (.iconst 2, 1) := by decide +kernel
theorem dL_rows_275 : decode cL_rows 275 = .ok (.bipush 20, 2) := by decide +kernel
theorem dL_rows_277 : decode cL_rows 277 = .ok (.bipush 20, 2) := by decide +kernel
theorem dL_rows_279 : decode cL_rows 279 = .ok (.invokevirtual 20, 3) := by decide +kernel
theorem dL_rows_282 : decode cL_rows 282 = .ok (.iconst 5, 1) := by decide +kernel
theorem dL_rows_283 : decode cL_rows 283 = .ok (.if_icmp .ne 40, 3) := by decide +kernel
theorem dL_rows_286 : decode cL_rows 286 = .ok (.aload_n 0, 1) := by decide +kernel
theorem dL_rows_287 : decode cL_rows 287 = .ok (.iconst 3, 1) := by decide +kernel
theorem dL_rows_288 : decode cL_rows 288 = .ok (.iconst 0, 1) := by decide +kernel
theorem dL_rows_289 : decode cL_rows 289 = .ok (.invokevirtual 50, 3) := by decide +kernel
theorem dL_rows_292 : decode cL_rows 292 = .ok (.iconst 4, 1) := by decide +kernel
theorem dL_rows_293 : decode cL_rows 293 = .ok (.if_icmp .ne 30, 3) := by decide +kernel
theorem dL_rows_296 : decode cL_rows 296 = .ok (.aload_n 0, 1) := by decide +kernel
theorem dL_rows_297 : decode cL_rows 297 = .ok (.iconst 3, 1) := by decide +kernel
theorem dL_rows_298 : decode cL_rows 298 = .ok (.iconst 3, 1) := by decide +kernel
theorem dL_rows_299 : decode cL_rows 299 = .ok (.iconst 0, 1) := by decide +kernel
theorem dL_rows_300 : decode cL_rows 300 = .ok (.invokevirtual 53, 3) := by decide +kernel
theorem dL_rows_303 : decode cL_rows 303 = .ok (.bipush 12, 2) := by decide +kernel
theorem dL_rows_305 : decode cL_rows 305 = .ok (.if_icmp .ne 18, 3) := by decide +kernel
theorem dL_rows_308 : decode cL_rows 308 = .ok (.aload_n 0, 1) := by decide +kernel
theorem dL_rows_309 : decode cL_rows 309 = .ok (.iconst 3, 1) := by decide +kernel
theorem dL_rows_310 : decode cL_rows 310 = .ok (.iconst 0, 1) := by decide +kernel
theorem dL_rows_311 : decode cL_rows 311 = .ok (.invokevirtual 59, 3) := by decide +kernel
theorem dL_rows_314 : decode cL_rows 314 = .ok (.aload_n 0, 1) := by decide +kernel
theorem dL_rows_315 : decode cL_rows 315 = .ok (.iconst 3, 1) := by decide +kernel
theorem dL_rows_316 : decode cL_rows 316 = .ok (.iconst 0, 1) := by decide +kernel
theorem dL_rows_317 : decode cL_rows 317 = .ok (.invokevirtual 62, 3) := by decide +kernel
theorem dL_rows_320 : decode cL_rows 320 = .ok (.if_icmp .eq 5, 3) := by decide +kernel
theorem dL_rows_323 : decode cL_rows 323 = .ok (.iconst 0, 1) := by decide +kernel
theorem dL_rows_324 : decode cL_rows 324 = .ok (.ireturn, 1) := by decide +kernel
theorem dL_rows_325 : decode cL_rows 325 = .ok (.iconst 5, 1) := by decide +kernel
theorem dL_rows_326 : decode cL_rows 326 = .ok (.istore_n 1, 1) := by decide +kernel
theorem dL_rows_327 : decode cL_rows 327 = .ok (.iload_n 1, 1) := by decide +kernel
theorem dL_rows_328 : decode cL_rows 328 = .ok (.bipush 22, 2) := by decide +kernel
theorem dL_rows_330 : decode cL_rows 330 = .ok (.if_icmp .ge 37, 3) := by decide +kernel
theorem dL_rows_333 : decode cL_rows 333 = .ok (.aload_n 0, 1) := by decide +kernel
theorem dL_rows_334 : decode cL_rows 334 = .ok (.iconst 1, 1) := by decide +kernel
theorem dL_rows_335 : decode cL_rows 335 = .ok (.iconst 0, 1) := by decide +kernel
theorem dL_rows_336 : decode cL_rows 336 = .ok (.iconst 1, 1) := by decide +kernel
theorem dL_rows_337 : decode cL_rows 337 = .ok (.sipush 364, 3) := by decide +kernel
theorem dL_rows_340 : decode cL_rows 340 = .ok (.iconst 0, 1) := by decide +kernel
theorem dL_rows_341 : decode cL_rows 341 = .ok (.invokestatic 88, 3) := by decide +kernel
theorem dL_rows_344 : decode cL_rows 344 = .ok (.iload_n 1, 1) := by decide +kernel
theorem dL_rows_345 : decode cL_rows 345 = .ok (.bipush 21, 2) := by decide +kernel
theorem dL_rows_347 : decode cL_rows 347 = .ok (.if_icmp .ge 7, 3) := by decide +kernel
theorem dL_rows_350 : decode cL_rows 350 = .ok (.iload_n 1, 1) := by decide +kernel
theorem dL_rows_351 : decode cL_rows 351 = .ok (.goto 5, 3) := by decide +kernel
theorem dL_rows_354 : decode cL_rows 354 = .ok (.ldc 79, 2) := by decide +kernel
theorem dL_rows_356 : decode cL_rows 356 = .ok (.if_icmp .eq 5, 3) := by decide +kernel
theorem dL_rows_359 : decode cL_rows 359 = .ok (.iconst 0, 1) := by decide +kernel
theorem dL_rows_360 : decode cL_rows 360 = .ok (.ireturn, 1) := by decide +kernel
theorem dL_rows_361 : decode cL_rows 361 = .ok (.iinc 1 1, 3) := by decide +kernel
theorem dL_rows_364 : decode cL_rows 364 = .ok (.goto (-37), 3) := by decide +kernel
theorem dL_rows_367 : decode cL_rows 367 = .ok (.bipush 6, 2) := by decide +kernel
theorem dL_rows_369 : decode cL_rows 369 = .ok (.istore_n 1, 1) := by decide +kernel
theorem dL_rows_370 : decode cL_rows 370 = .ok (.iload_n 1, 1) := by decide +kernel
theorem dL_rows_371 : decode cL_rows 371 = .ok (.bipush 61, 2) := by decide +kernel
theorem dL_rows_373 : decode cL_rows 373 = .ok (.if_icmp .ge 50, 3) := by decide +kernel
theorem dL_rows_376 : decode cL_rows 376 = .ok (.aload_n 0, 1) := by decide +kernel
theorem dL_rows_377 : decode cL_rows 377 = .ok (.iconst 3, 1) := by decide +kernel
theorem dL_rows_378 : decode cL_rows 378 = .ok (.iload_n 1, 1) := by decide +kernel
theorem dL_rows_379 : decode cL_rows 379 = .ok (.iconst 4, 1) := by decide +kernel
theorem dL_rows_380 : decode cL_rows 380 = .ok (.irem, 1) := by decide +kernel
theorem dL_rows_381 : decode cL_rows 381 = .ok (.iadd, 1) := by decide +kernel
theorem dL_rows_382 : decode cL_rows 382 = .ok (.iconst 1, 1) := by decide +kernel
theorem dL_rows_383 : decode cL_rows 383 = .ok (.iload_n 1, 1) := by decide +kernel
theorem dL_rows_384 : decode cL_rows 384 = .ok (.iconst 4, 1) := by decide +kernel
theorem dL_rows_385 : decode cL_rows 385 = .ok (.irem, 1) := by decide +kernel
theorem dL_rows_386 : decode cL_rows 386 = .ok (.iconst 1, 1) := by decide +kernel
theorem dL_rows_387 : decode cL_rows 387 = .ok (.if_icmp .le 7, 3) := by decide +kernel
theorem dL_rows_390 : decode cL_rows 390 = .ok (.iload_n 1, 1) := by decide +kernel
theorem dL_rows_391 : decode cL_rows 391 = .ok (.goto 4, 3) := by decide +kernel
theorem dL_rows_394 : decode cL_rows 394 = .ok (.iconst 0, 1) := by decide +kernel
theorem dL_rows_395 : decode cL_rows 395 = .ok (.iload_n 1, 1) := by decide +kernel
theorem dL_rows_396 : decode cL_rows 396 = .ok (.iconst 0, 1) := by decide +kernel
theorem dL_rows_397 : decode cL_rows 397 = .ok (.invokestatic 88, 3) := by decide +kernel
theorem dL_rows_400 : decode cL_rows 400 = .ok (.iload_n 1, 1) := by decide +kernel
theorem dL_rows_401 : decode cL_rows 401 = .ok (.bipush 60, 2) := by decide +kernel
theorem dL_rows_403 : decode cL_rows 403 = .ok (.if_icmp .ge 7, 3) := by decide +kernel
theorem dL_rows_406 : decode cL_rows 406 = .ok (.iload_n 1, 1) := by decide +kernel
theorem dL_rows_407 : decode cL_rows 407 = .ok (.goto 5, 3) := by decide +kernel
theorem dL_rows_410 : decode cL_rows 410 = .ok (.ldc 79, 2) := by decide +kernel
theorem dL_rows_412 : decode cL_rows 412 = .ok (.if_icmp .eq 5, 3) := by decide +kernel
theorem dL_rows_415 : decode cL_rows 415 = .ok (.iconst 0, 1) := by decide +kernel
theorem dL_rows_416 : decode cL_rows 416 = .ok (.ireturn, 1) := by decide +kernel
theorem dL_rows_417 : decode cL_rows 417 = .ok (.iinc 1 1, 3) := by decide +kernel
theorem dL_rows_420 : decode cL_rows 420 = .ok (.goto (-50), 3) := by decide +kernel
theorem dL_rows_423 : decode cL_rows 423 = .ok (.iconst 1, 1) := by decide +kernel
theorem dL_rows_424 : decode cL_rows 424 = .ok (.istore_n 1, 1) := by decide +kernel
theorem dL_rows_425 : decode cL_rows 425 = .ok (.iload_n 1, 1) := by decide +kernel
theorem dL_rows_426 : decode cL_rows 426 = .ok (.bipush 8, 2) := by decide +kernel
theorem dL_rows_428 : decode cL_rows 428 = .ok (.if_icmp .ge 24, 3) := by decide +kernel
theorem dL_rows_431 : decode cL_rows 431 = .ok (.aload_n 0, 1) := by decide +kernel
theorem dL_rows_432 : decode cL_rows 432 = .ok (.bipush 100, 2) := by decide +kernel
theorem dL_rows_434 : decode cL_rows 434 = .ok (.invokevirtual 17, 3) := by decide +kernel
theorem dL_rows_437 : decode cL_rows 437 = .ok (.bipush 100, 2) := by decide +kernel
theorem dL_rows_439 : decode cL_rows 439 = .ok (.iload_n 1, 1) := by decide +kernel
theorem dL_rows_440 : decode cL_rows 440 = .ok (.imul, 1) := by decide +kernel
theorem dL_rows_441 : decode cL_rows 441 = .ok (.if_icmp .eq 5, 3) := by decide +kernel
theorem dL_rows_444 : decode cL_rows 444 = .ok (.iconst 0, 1) := by decide +kernel
theorem dL_rows_445 : decode cL_rows 445 = .ok (.ireturn, 1) := by decide +kernel
theorem dL_rows_446 : decode cL_rows 446 = .ok (.iinc 1 1, 3) := by decide +kernel
theorem dL_rows_449 : decode cL_rows 449 = .ok (.goto (-24), 3) := by decide +kernel
theorem dL_rows_452 : decode cL_rows 452 = .ok (.aload_n 0, 1) := by decide +kernel
theorem dL_rows_453 : decode cL_rows 453 = .ok (.invokevirtual 80, 3) := by decide +kernel
theorem dL_rows_456 : decode cL_rows 456 = .ok (.bipush 60, 2) := by decide +kernel
theorem dL_rows_458 : decode cL_rows 458 = .ok (.if_icmp .ne 68, 3) := by decide +kernel
theorem dL_rows_461 : decode cL_rows 461 = .ok (.aload_n 0, 1) := by decide +kernel
theorem dL_rows_462 : decode cL_rows 462 = .ok (.iconst 5, 1) := by decide +kernel
theorem dL_rows_463 : decode cL_rows 463 = .ok (.iconst 0, 1) := by decide +kernel
theorem dL_rows_464 : decode cL_rows 464 = .ok (.iconst 0, 1) := by decide +kernel
theorem dL_rows_465 : decode cL_rows 465 = .ok (.iconst 0, 1) := by decide +kernel
theorem dL_rows_466 : decode cL_rows 466 = .ok (.iconst 0, 1) := by decide +kernel
theorem dL_rows_467 : decode cL_rows 467 = .ok (.invokestatic 88, 3) := by decide +kernel
theorem dL_rows_470 : decode cL_rows 470 = .ok (.ldc 79, 2) := by decide +kernel
theorem dL_rows_472 : decode cL_rows 472 = .ok (.if_icmp .ne 54, 3) := by decide +kernel
theorem dL_rows_475 : decode cL_rows 475 = .ok (.aload_n 0, 1) := by decide +kernel
theorem dL_rows_476 : decode cL_rows 476 = .ok (.bipush 59, 2) := by decide +kernel
theorem dL_rows_478 : decode cL_rows 478 = .ok (.invokevirtual 34, 3) := by decide +kernel
theorem dL_rows_481 : decode cL_rows 481 = .ok (.ifCond .ne 45, 3) := by decide +kernel
theorem dL_rows_484 : decode cL_rows 484 = .ok (.aload_n 0, 1) := by decide +kernel
theorem dL_rows_485 : decode cL_rows 485 = .ok (.iconst 2, 1) := by decide +kernel
theorem dL_rows_486 : decode cL_rows 486 = .ok (.invokevirtual 65, 3) := by decide +kernel
theorem dL_rows_489 : decode cL_rows 489 = .ok (.sipush 998, 3) := by decide +kernel
theorem dL_rows_492 : decode cL_rows 492 = .ok (.if_icmp .ne 34, 3) := by decide +kernel
theorem dL_rows_495 : decode cL_rows 495 = .ok (.aload_n 0, 1) := by decide +kernel
theorem dL_rows_496 : decode cL_rows 496 = .ok (.iconst 2, 1) := by decide +kernel
theorem dL_rows_497 : decode cL_rows 497 = .ok (.invokevirtual 68, 3) := by decide +kernel
theorem dL_rows_500 : decode cL_rows 500 = .ok (.sipush 998, 3) := by decide +kernel
theorem dL_rows_503 : decode cL_rows 503 = .ok (.if_icmp .ne 23, 3) := by decide +kernel
theorem dL_rows_506 : decode cL_rows 506 = .ok (.aload_n 0, 1) := by decide +kernel
theorem dL_rows_507 : decode cL_rows 507 = .ok (.iconst 3, 1) := by decide +kernel
theorem dL_rows_508 : decode cL_rows 508 = .ok (.invokevirtual 68, 3) := by decide +kernel
theorem dL_rows_511 : decode cL_rows 511 = .ok (.ifCond .ne 15, 3) := by decide +kernel
theorem dL_rows_514 : decode cL_rows 514 = .ok (.aload_n 0, 1) := by decide +kernel
theorem dL_rows_515 : decode cL_rows 515 = .ok (.iconst 4, 1) := by decide +kernel
theorem dL_rows_516 : decode cL_rows 516 = .ok (.invokestatic 102, 3) := by decide +kernel
theorem dL_rows_519 : decode cL_rows 519 = .ok (.ifCond .eq 7, 3) := by decide +kernel
theorem dL_rows_522 : decode cL_rows 522 = .ok (.iconst 1, 1) := by decide +kernel
theorem dL_rows_523 : decode cL_rows 523 = .ok (.goto 4, 3) := by decide +kernel
theorem dL_rows_526 : decode cL_rows 526 = .ok (.iconst 0, 1) := by decide +kernel
theorem dL_rows_527 : decode cL_rows 527 = .ok (.ireturn, 1) := by decide +kernel
set_option maxRecDepth 20000 in
theorem ggL_law_L_days : GoodIn wsL_law wsL_days := goodIn_hd 6 rfl rfl (goodIn_app (goodIn_app (goodIn_app (goodIn_app (goodIn_app (goodIn_app (goodIn_app (goodIn_app (goodIn_app (goodIn_app (goodIn_app (goodIn_r wsL_days_r1 [0, 1, 2, 7, 8, 9, 10, 11, 12, 13, 14, 15, 16, 17, 18, 19, 20, 21, 22, 23, 24, 25, 26, 27] (by decide +kernel) (by decide +kernel)) (goodIn_app (goodIn_r wsL_days_r2 [28, 29, 30, 31, 32, 33, 34, 35, 36, 37, 38, 39, 40, 41, 42, 43, 44, 45, 46, 47, 48, 49, 50, 51] (by decide +kernel) (by decide +kernel)) (goodIn_app (goodIn_r wsL_days_r3 [52, 53, 54, 55, 56, 57, 58, 59, 60, 61, 62, 63, 64, 65, 66, 67, 68, 69, 70, 71, 72, 73, 74, 75] (by decide +kernel) (by decide +kernel)) (goodIn_app (goodIn_r wsL_days_r4 [76, 77, 78, 79, 80, 81, 82, 83, 84, 85, 5, 86, 87, 88, 89, 90, 91, 92, 93, 94, 95, 96, 97, 98] (by decide +kernel) (by decide +kernel)) (goodIn_app (goodIn_r wsL_days_r5 [99, 100, 101, 102, 103, 104, 105, 106, 107, 108, 109, 110, 111, 112, 113, 114, 115, 116, 117, 118, 119, 120, 121, 122] (by decide +kernel) (by decide +kernel)) (goodIn_app (goodIn_r wsL_days_r6 [123, 124, 125, 126, 127, 128, 129, 130, 131, 132, 133, 134, 135, 136, 137, 138, 139, 140, 141, 142, 143, 144, 145, 146] (by decide +kernel) (by decide +kernel)) (goodIn_app (goodIn_r wsL_days_r7 [147, 148, 149, 150, 151, 152, 153, 154, 155, 156, 157, 158, 159, 160, 161, 162, 163, 164, 165, 166, 167, 168, 169, 170] (by decide +kernel) (by decide +kernel)) (goodIn_app (goodIn_r wsL_days_r8 [171, 172, 173, 174, 175, 176, 177, 178, 179, 180, 181, 182, 183, 184, 185, 186, 187, 188, 189, 190, 191, 192, 193, 194] (by decide +kernel) (by decide +kernel)) (goodIn_app (goodIn_r wsL_days_r9 [195, 196, 197, 198, 199, 200, 201, 202, 203, 204, 205, 206, 207, 208, 209, 210, 211, 212, 213, 214, 215, 216, 217, 218] (by decide +kernel) (by decide +kernel)) (goodIn_app (goodIn_r wsL_days_r10 [219, 220, 221, 222, 223, 224, 225, 226, 227, 228, 229, 230, 231, 232, 233, 234, 235, 236, 237, 238, 239, 240, 241, 242] (by decide +kernel) (by decide +kernel)) (goodIn_app (goodIn_r wsL_days_r11 [243, 244, 245, 246, 247, 248, 249, 250, 251, 252, 253, 254, 255, 256, 257, 258, 259, 260, 261, 262, 263, 264, 265, 266] (by decide +kernel) (by decide +kernel)) (goodIn_app (goodIn_r wsL_days_r12 [267, 268, 269, 270, 271, 272, 273, 274, 275, 276, 277, 278, 279, 280, 281, 282, 283, 284, 285, 286, 287, 288, 289, 290] (by decide +kernel) (by decide +kernel)) (goodIn_app (goodIn_r wsL_days_r13 [291, 292, 293, 294, 295, 296, 297, 298, 299, 300, 301, 302, 303, 304, 305, 306, 307, 308, 309, 310, 311, 312, 313, 314] (by decide +kernel) (by decide +kernel)) (goodIn_app (goodIn_r wsL_days_r14 [315, 316, 317, 318, 319, 320, 321, 322, 323, 324, 325, 326, 327, 328, 329, 330, 331, 332, 333, 334, 335, 336, 337, 338] (by decide +kernel) (by decide +kernel)) (goodIn_app (goodIn_r wsL_days_r15 [339, 340, 341, 342, 343, 344, 345, 346, 347, 348, 349, 350, 351, 352, 353, 354, 355, 356, 357, 358, 359, 360, 361, 362] (by decide +kernel) (by decide +kernel)) (goodIn_app (goodIn_r wsL_days_r16 [363, 364, 365, 366, 367, 368, 369, 370, 371, 372, 373, 374, 375, 376, 377, 378, 379, 380, 381, 382, 383, 384, 385, 386] (by decide +kernel) (by decide +kernel)) (goodIn_app (goodIn_r wsL_days_r17 [387, 388, 389, 390, 391, 392, 393, 394, 395, 396, 397, 398, 399, 400, 401, 402, 403, 404, 405, 406, 407, 408, 409, 410] (by decide +kernel) (by decide +kernel)) (goodIn_app (by rw [wsL_days_r18_eq]; exact (goodIn_app (goodIn_r wsL_days_r18_a [411, 412, 413, 414, 415, 416, 417, 418, 419, 420, 421, 422, 423, 424, 425, 426, 427, 428, 429, 430, 431, 432, 433] (by decide +kernel) (by decide +kernel)) (goodIn_hd 434 rfl rfl (goodIn_r wsL_days_r18_b [] (by decide +kernel) (by decide +kernel))))) (goodIn_r wsL_days_r19 [435] (by decide +kernel) (by decide +kernel)))))))))))))))))))) (goodIn_r wsX60 [439, 440, 441, 442, 443, 444] (by decide +kernel) (by decide +kernel))) (goodIn_r wsJx4a65c0 [445, 446, 447] (by decide +kernel) (by decide +kernel))) (goodIn_r wsX30 [448, 449, 450] (by decide +kernel) (by decide +kernel))) (goodIn_r wsX40 [451, 452] (by decide +kernel) (by decide +kernel))) (goodIn_r wsX50 [453, 454] (by decide +kernel) (by decide +kernel))) (goodIn_r wsX20 [455, 456, 457] (by decide +kernel) (by decide +kernel))) (goodIn_r wsX00 [458, 459, 460, 461, 462, 463, 464, 465] (by decide +kernel) (by decide +kernel))) (goodIn_sub (fun _ h => List.mem_append_left _ (List.mem_append_left _ (List.mem_append_right _ h))) (by decide +kernel))) (goodIn_sub (fun _ h => List.mem_append_left _ (List.mem_append_right _ h)) (by decide +kernel))) (goodIn_sub (fun _ h => List.mem_append_right _ h) (by decide +kernel)))
set_option maxRecDepth 20000 in
theorem gL_law_L_days : GoodIn wsL_law (va_wsS RL 106 yL_days wsL_days) := goodIn_app (goodIn_of _ (by decide +kernel)) ggL_law_L_days
set_option maxRecDepth 20000 in
theorem ggL_law_L_rows : GoodIn wsL_law wsL_rows := goodIn_hd 438 rfl rfl (goodIn_app (goodIn_app (goodIn_app (goodIn_app (goodIn_app (goodIn_app (goodIn_app (goodIn_app (goodIn_app (goodIn_app (goodIn_app (goodIn_r wsL_rows_r1 [0, 1, 2, 8, 9, 10, 11, 12, 13, 14, 15, 16, 17, 18, 19, 20, 21, 22, 23, 24, 25, 26, 27, 28] (by decide +kernel) (by decide +kernel)) (goodIn_app (goodIn_r wsL_rows_r2 [29, 30, 31, 32, 33, 34, 35, 36, 37, 38, 39, 40, 41, 42, 43, 44, 45, 46, 47, 48, 49, 50, 51, 52] (by decide +kernel) (by decide +kernel)) (goodIn_app (goodIn_r wsL_rows_r3 [53, 54, 55, 56, 57, 58, 59, 60, 61, 62, 63, 64, 65, 66, 67, 68, 69, 70, 84, 85, 5, 86, 87, 88] (by decide +kernel) (by decide +kernel)) (goodIn_app (goodIn_r wsL_rows_r4 [89, 7, 90, 91, 92, 93, 94, 95, 96, 97, 98, 99, 100, 101, 102, 103, 104, 79, 80, 81, 82, 83, 105, 106] (by decide +kernel) (by decide +kernel)) (goodIn_app (goodIn_r wsL_rows_r5 [107, 108, 109, 110, 111, 112, 113, 114, 115, 116, 117, 118, 119, 120, 121, 122, 123, 124, 125, 126, 127, 128, 129, 130] (by decide +kernel) (by decide +kernel)) (goodIn_app (goodIn_r wsL_rows_r6 [131, 132, 133, 134, 135, 136, 137, 138, 139, 140, 141, 142, 143, 144, 145, 146, 147, 148, 149, 150, 151, 152, 153, 154] (by decide +kernel) (by decide +kernel)) (goodIn_app (goodIn_r wsL_rows_r7 [155, 156, 157, 158, 159, 160, 161, 162, 163, 164, 165, 166, 167, 168, 169, 170, 171, 172, 173, 174, 175, 176, 177, 178] (by decide +kernel) (by decide +kernel)) (goodIn_app (goodIn_r wsL_rows_r8 [179, 180, 181, 182, 183, 184, 185, 186, 187, 188, 189, 190, 191, 192, 193, 194, 195, 196, 197, 198, 199, 200, 201, 202] (by decide +kernel) (by decide +kernel)) (goodIn_app (goodIn_r wsL_rows_r9 [203, 204, 205, 206, 207, 208, 209, 210, 211, 212, 213, 214, 215, 216, 217, 218, 219, 220, 221, 222, 223, 224, 225, 226] (by decide +kernel) (by decide +kernel)) (goodIn_app (goodIn_r wsL_rows_r10 [227, 228, 229, 230, 231, 232, 233, 234, 235, 236, 237, 238, 239, 240, 241, 242, 243, 244, 245, 246, 247, 248, 249, 250] (by decide +kernel) (by decide +kernel)) (goodIn_app (goodIn_r wsL_rows_r11 [251, 252, 253, 254, 255, 256, 257, 258, 259, 260, 261, 262, 263, 264, 265, 266, 267, 268, 269, 270, 271, 272, 273, 274] (by decide +kernel) (by decide +kernel)) (goodIn_app (goodIn_r wsL_rows_r12 [275, 276, 277, 278, 279, 280, 281, 282, 283, 284, 285, 286, 287, 288, 289, 290, 291, 292, 293, 294, 295, 296, 297, 298] (by decide +kernel) (by decide +kernel)) (goodIn_app (goodIn_r wsL_rows_r13 [299, 300, 301, 302, 303, 304, 305, 306, 307, 308, 309, 310, 311, 312, 313, 314, 315, 316, 317, 318, 319, 320, 321, 322] (by decide +kernel) (by decide +kernel)) (goodIn_app (goodIn_r wsL_rows_r14 [323, 324, 325, 326, 327, 328, 329, 330, 331, 332, 333, 334, 335, 336, 337, 338, 339, 340, 341, 342, 343, 344, 345, 346] (by decide +kernel) (by decide +kernel)) (goodIn_app (goodIn_r wsL_rows_r15 [347, 348, 349, 350, 351, 352, 353, 354, 355, 356, 357, 358, 359, 360, 361, 362, 363, 364, 365, 366, 367, 368, 369, 370] (by decide +kernel) (by decide +kernel)) (goodIn_app (goodIn_r wsL_rows_r16 [371, 372, 373, 374, 375, 376, 377, 378, 379, 380, 381, 382, 383, 384, 385, 386, 387, 388, 389, 390, 391, 392, 393, 394] (by decide +kernel) (by decide +kernel)) (goodIn_app (goodIn_r wsL_rows_r17 [395, 396, 397, 398, 399, 400, 401, 402, 403, 404, 405, 406, 407, 408, 409, 410, 411, 412, 413, 414, 415, 416, 417, 418] (by decide +kernel) (by decide +kernel)) (by rw [wsL_rows_r18_eq]; exact (goodIn_app (goodIn_r wsL_rows_r18_a [419, 420, 421, 422, 423, 424, 425, 75, 76, 77, 78, 432, 433] (by decide +kernel) (by decide +kernel)) (goodIn_hd 434 rfl rfl (goodIn_r wsL_rows_r18_b [435, 71, 72, 73, 74] (by decide +kernel) (by decide +kernel)))))))))))))))))))))) (goodIn_r wsX60 [439, 440, 441, 442, 443, 444] (by decide +kernel) (by decide +kernel))) (goodIn_r wsJx4a65c0 [445, 446, 447] (by decide +kernel) (by decide +kernel))) (goodIn_r wsX30 [448, 449, 450] (by decide +kernel) (by decide +kernel))) (goodIn_r wsX40 [451, 452] (by decide +kernel) (by decide +kernel))) (goodIn_r wsX50 [453, 454] (by decide +kernel) (by decide +kernel))) (goodIn_r wsX20 [455, 456, 457] (by decide +kernel) (by decide +kernel))) (goodIn_r wsX00 [458, 459, 460, 461, 462, 463, 464, 465] (by decide +kernel) (by decide +kernel))) (goodIn_sub (fun _ h => List.mem_append_left _ (List.mem_append_left _ (List.mem_append_right _ h))) (by decide +kernel))) (goodIn_sub (fun _ h => List.mem_append_left _ (List.mem_append_right _ h)) (by decide +kernel))) (goodIn_sub (fun _ h => List.mem_append_right _ h) (by decide +kernel)))
set_option maxRecDepth 20000 in
theorem gL_law_L_rows : GoodIn wsL_law (va_wsS RL 110 yL_rows wsL_rows) := goodIn_app (goodIn_of _ (by decide +kernel)) ggL_law_L_rows
set_option maxRecDepth 20000 in
theorem ggL_law_X6_init : GoodIn wsL_law wsX6_init := goodIn_r _ [11, 12, 13, 14, 15, 16, 17, 18, 19, 20, 21, 22, 23, 24, 25, 26, 27, 28, 29, 30, 31, 32, 33, 34, 35, 36, 37, 38, 39, 40, 41, 42, 43, 44, 45, 46, 47, 48, 49, 50, 51, 52, 53, 54, 55, 56, 57, 58, 59, 60, 61, 62, 63, 64, 65, 66, 67, 68, 69, 70, 445, 446, 447, 439, 440, 441, 442, 443, 444, 448, 449, 450, 451, 452, 453, 454] (by decide +kernel) (by decide +kernel)
set_option maxRecDepth 20000 in
theorem gL_law_X6_init : GoodIn wsL_law (wsX6_init) := ggL_law_X6_init
set_option maxRecDepth 20000 in
theorem ggL_law_X6_open : GoodIn wsL_law wsX6_open := goodIn_ca (goodIn_ca (goodIn_r _ [94, 95, 96, 18, 97, 98, 99, 100, 101, 2, 102, 103, 104, 79, 80, 81, 17, 82, 83, 105, 106, 107, 108, 13, 14, 109, 16, 110, 111, 112, 113, 34, 35, 36, 37, 38, 39, 40, 41, 42, 43, 44, 45, 46, 47, 114, 115, 116, 117, 118, 119, 120, 121, 122, 123, 124, 125, 126, 127, 128, 129, 130, 131, 132, 133, 134, 135, 136, 137, 138, 139, 140, 141, 142, 143, 144, 145, 146, 147, 59, 148, 149, 150, 151, 152, 153, 154, 155, 156, 157, 158, 159, 160, 161, 162, 163, 164, 439, 440, 441, 442, 443, 444, 455, 456, 457, 445, 446, 447] (by decide +kernel) (by decide +kernel)) (goodIn_sub (fun _ h => List.mem_append_left _ (List.mem_append_left _ (List.mem_append_right _ h))) (by decide +kernel))) (goodIn_sub (fun _ h => List.mem_append_left _ (List.mem_append_right _ h)) (by decide +kernel))
set_option maxRecDepth 20000 in
theorem gL_law_X6_open : GoodIn wsL_law (wsV RL 7 RX6 yX6_open wsX6_open) := goodIn_app (goodIn_of _ (by decide +kernel)) ggL_law_X6_open
set_option maxRecDepth 20000 in
theorem ggL_law_X6_change : GoodIn wsL_law wsX6_change := goodIn_ca (goodIn_ca (goodIn_ca (goodIn_r _ [192, 193, 194, 195, 196, 2, 197, 173, 174, 18, 198, 79, 80, 81, 17, 82, 83, 199, 200, 201, 202, 203, 204, 205, 206, 207, 208, 209, 210, 211, 212, 213, 214, 37, 170, 171, 172, 175, 176, 177, 178, 179, 180, 100, 101, 102, 103, 104, 215, 216, 217, 218, 95, 96, 19, 219, 220, 221, 32, 222, 223, 224, 225, 226, 13, 14, 227, 228, 229, 230, 231, 232, 233, 234, 114, 115, 116, 117, 118, 119, 120, 121, 122, 123, 124, 125, 126, 127, 128, 129, 130, 131, 36, 132, 133, 134, 135, 136, 137, 138, 139, 140, 141, 142, 143, 144, 145, 146, 147, 59, 148, 149, 150, 151, 152, 153, 154, 155, 156, 157, 158, 159, 160, 161, 162, 163, 164, 235, 236, 237, 99, 238, 110, 239, 240, 241, 242, 243, 244, 245, 246, 247, 248, 249, 250, 251, 439, 440, 441, 442, 443, 444, 445, 446, 447, 458, 459, 460, 461, 462, 463, 464, 465, 455, 456, 457] (by decide +kernel) (by decide +kernel)) (goodIn_sub (fun _ h => List.mem_append_right _ h) (by decide +kernel))) (goodIn_sub (fun _ h => List.mem_append_left _ (List.mem_append_right _ h)) (by decide +kernel))) (goodIn_sub (fun _ h => List.mem_append_left _ (List.mem_append_left _ (List.mem_append_right _ h))) (by decide +kernel))
set_option maxRecDepth 20000 in
theorem gL_law_X6_change : GoodIn wsL_law (wsV RL 20 RX6 yX6_change wsX6_change) := goodIn_app (goodIn_of _ (by decide +kernel)) ggL_law_X6_change
set_option maxRecDepth 20000 in
theorem ggL_law_X6_add : GoodIn wsL_law wsX6_add := goodIn_ca (goodIn_ca (goodIn_ca (goodIn_r _ [255, 256, 194, 195, 196, 2, 197, 173, 174, 18, 198, 79, 80, 81, 17, 82, 83, 199, 200, 201, 202, 203, 204, 205, 206, 207, 208, 209, 210, 211, 212, 213, 214, 37, 170, 171, 172, 175, 176, 177, 178, 179, 180, 100, 101, 102, 103, 104, 215, 216, 217, 218, 95, 96, 19, 219, 220, 221, 32, 222, 223, 224, 225, 226, 13, 14, 227, 228, 229, 230, 231, 232, 233, 234, 114, 115, 116, 117, 118, 119, 120, 121, 122, 123, 124, 125, 126, 127, 128, 129, 130, 131, 36, 132, 133, 134, 135, 136, 137, 138, 139, 140, 141, 142, 143, 144, 145, 146, 147, 59, 148, 149, 150, 151, 152, 153, 154, 155, 156, 157, 158, 159, 160, 161, 162, 163, 164, 235, 236, 237, 99, 238, 110, 239, 240, 241, 242, 243, 244, 245, 246, 247, 248, 249, 250, 251, 439, 440, 441, 442, 443, 444, 445, 446, 447, 458, 459, 460, 461, 462, 463, 464, 465, 455, 456, 457] (by decide +kernel) (by decide +kernel)) (goodIn_sub (fun _ h => List.mem_append_right _ h) (by decide +kernel))) (goodIn_sub (fun _ h => List.mem_append_left _ (List.mem_append_right _ h)) (by decide +kernel))) (goodIn_sub (fun _ h => List.mem_append_left _ (List.mem_append_left _ (List.mem_append_right _ h))) (by decide +kernel))
set_option maxRecDepth 20000 in
theorem gL_law_X6_add : GoodIn wsL_law (wsV RL 24 RX6 yX6_add wsX6_add) := goodIn_app (goodIn_of _ (by decide +kernel)) ggL_law_X6_add
set_option maxRecDepth 20000 in
theorem ggL_law_X6_cancel : GoodIn wsL_law wsX6_cancel := goodIn_ca (goodIn_ca (goodIn_ca (goodIn_r _ [260, 261, 194, 195, 196, 2, 197, 173, 174, 18, 198, 79, 80, 81, 17, 82, 83, 199, 200, 201, 202, 203, 204, 205, 206, 207, 208, 209, 210, 211, 212, 213, 214, 37, 178, 179, 180, 100, 101, 102, 103, 104, 215, 216, 217, 218, 95, 96, 19, 219, 220, 221, 32, 222, 223, 224, 225, 226, 13, 14, 227, 228, 229, 230, 231, 232, 233, 234, 114, 115, 116, 117, 118, 119, 120, 121, 122, 123, 124, 125, 126, 127, 128, 129, 130, 131, 36, 132, 133, 134, 135, 136, 137, 138, 139, 140, 141, 142, 143, 144, 145, 146, 147, 59, 148, 149, 150, 151, 152, 153, 154, 155, 156, 157, 158, 159, 160, 161, 162, 163, 164, 235, 236, 237, 99, 238, 110, 239, 240, 241, 242, 243, 244, 245, 246, 247, 248, 249, 250, 251, 439, 440, 441, 442, 443, 444, 445, 446, 447, 458, 459, 460, 461, 462, 463, 464, 465, 455, 456, 457] (by decide +kernel) (by decide +kernel)) (goodIn_sub (fun _ h => List.mem_append_right _ h) (by decide +kernel))) (goodIn_sub (fun _ h => List.mem_append_left _ (List.mem_append_right _ h)) (by decide +kernel))) (goodIn_sub (fun _ h => List.mem_append_left _ (List.mem_append_left _ (List.mem_append_right _ h))) (by decide +kernel))
set_option maxRecDepth 20000 in
theorem gL_law_X6_cancel : GoodIn wsL_law (wsV RL 27 RX6 yX6_cancel wsX6_cancel) := goodIn_app (goodIn_of _ (by decide +kernel)) ggL_law_X6_cancel
set_option maxRecDepth 20000 in
theorem ggL_law_X6_reinstate : GoodIn wsL_law wsX6_reinstate := goodIn_ca (goodIn_ca (goodIn_ca (goodIn_r _ [265, 266, 194, 195, 196, 2, 197, 173, 174, 18, 198, 79, 80, 81, 17, 82, 83, 199, 200, 201, 202, 203, 204, 205, 206, 207, 208, 209, 210, 211, 212, 213, 214, 37, 178, 179, 180, 100, 101, 102, 103, 104, 215, 216, 217, 218, 95, 96, 19, 219, 220, 221, 32, 222, 223, 224, 225, 226, 13, 14, 227, 228, 229, 230, 231, 232, 233, 234, 114, 115, 116, 117, 118, 119, 120, 121, 122, 123, 124, 125, 126, 127, 128, 129, 130, 131, 36, 132, 133, 134, 135, 136, 137, 138, 139, 140, 141, 142, 143, 144, 145, 146, 147, 59, 148, 149, 150, 151, 152, 153, 154, 155, 156, 157, 158, 159, 160, 161, 162, 163, 164, 235, 236, 237, 99, 238, 110, 239, 240, 241, 242, 243, 244, 245, 246, 247, 248, 249, 250, 251, 439, 440, 441, 442, 443, 444, 445, 446, 447, 458, 459, 460, 461, 462, 463, 464, 465, 455, 456, 457] (by decide +kernel) (by decide +kernel)) (goodIn_sub (fun _ h => List.mem_append_right _ h) (by decide +kernel))) (goodIn_sub (fun _ h => List.mem_append_left _ (List.mem_append_right _ h)) (by decide +kernel))) (goodIn_sub (fun _ h => List.mem_append_left _ (List.mem_append_left _ (List.mem_append_right _ h))) (by decide +kernel))
set_option maxRecDepth 20000 in
theorem gL_law_X6_reinstate : GoodIn wsL_law (wsV RL 31 RX6 yX6_reinstate wsX6_reinstate) := goodIn_app (goodIn_of _ (by decide +kernel)) ggL_law_X6_reinstate
set_option maxRecDepth 20000 in
theorem ggL_law_X6_pass : GoodIn wsL_law wsX6_pass := goodIn_ca (goodIn_r _ [188, 32, 100, 101, 2, 102, 103, 104, 439, 440, 441, 442, 443, 444] (by decide +kernel) (by decide +kernel)) (goodIn_sub (fun _ h => List.mem_append_left _ (List.mem_append_right _ h)) (by decide +kernel))
set_option maxRecDepth 20000 in
theorem gL_law_X6_pass : GoodIn wsL_law (wsV RL 17 RX6 yX6_pass wsX6_pass) := goodIn_app (goodIn_of _ (by decide +kernel)) ggL_law_X6_pass
set_option maxRecDepth 20000 in
theorem ggL_law_X6_today : GoodIn wsL_law wsX6_today := goodIn_r _ [74, 32, 439, 440, 441, 442, 443, 444] (by decide +kernel) (by decide +kernel)
set_option maxRecDepth 20000 in
theorem gL_law_X6_today : GoodIn wsL_law (wsV RL 84 RX6 yX6_today wsX6_today) := goodIn_app (goodIn_of _ (by decide +kernel)) ggL_law_X6_today
set_option maxRecDepth 20000 in
theorem ggL_law_X6_premium : GoodIn wsL_law wsX6_premium := goodIn_ca (goodIn_ca (goodIn_r _ [403, 194, 195, 196, 2, 197, 173, 174, 18, 198, 79, 80, 81, 17, 82, 83, 199, 200, 201, 202, 203, 204, 205, 206, 207, 208, 209, 210, 211, 212, 213, 214, 37, 293, 294, 295, 296, 32, 100, 101, 102, 103, 104, 404, 405, 406, 407, 31, 356, 357, 358, 359, 27, 301, 302, 303, 26, 304, 64, 65, 305, 58, 59, 60, 306, 307, 308, 309, 283, 310, 133, 134, 135, 277, 284, 285, 286, 287, 221, 288, 234, 227, 311, 312, 313, 314, 315, 316, 317, 318, 319, 320, 321, 159, 160, 322, 323, 324, 325, 326, 176, 177, 327, 328, 329, 330, 341, 342, 343, 344, 336, 345, 23, 331, 346, 347, 348, 22, 349, 54, 350, 351, 360, 361, 362, 30, 363, 69, 70, 408, 409, 410, 411, 368, 369, 370, 371, 412, 389, 390, 391, 392, 393, 394, 395, 396, 397, 398, 399, 439, 440, 441, 442, 443, 444, 445, 446, 447, 451, 452, 455, 456, 457, 458, 459, 460, 461, 462, 463, 464, 465, 448, 449, 450, 453, 454] (by decide +kernel) (by decide +kernel)) (goodIn_sub (fun _ h => List.mem_append_right _ h) (by decide +kernel))) (goodIn_sub (fun _ h => List.mem_append_left _ (List.mem_append_right _ h)) (by decide +kernel))
set_option maxRecDepth 20000 in
theorem gL_law_X6_premium : GoodIn wsL_law (wsV RL 59 RX6 yX6_premium wsX6_premium) := goodIn_app (goodIn_of _ (by decide +kernel)) ggL_law_X6_premium
set_option maxRecDepth 20000 in
theorem ggL_law_X6_premiumByDays : GoodIn wsL_law wsX6_premiumByDays := goodIn_ca (goodIn_ca (goodIn_r _ [416, 194, 195, 196, 2, 197, 173, 174, 18, 198, 79, 80, 81, 17, 82, 83, 199, 200, 201, 202, 203, 204, 205, 206, 207, 208, 209, 210, 211, 212, 213, 214, 37, 293, 294, 295, 296, 32, 100, 101, 102, 103, 104, 297, 298, 299, 300, 27, 301, 302, 303, 26, 304, 64, 65, 305, 58, 59, 60, 306, 307, 308, 309, 283, 310, 133, 134, 135, 277, 284, 285, 286, 287, 221, 288, 234, 227, 311, 312, 313, 314, 315, 316, 317, 318, 319, 320, 321, 159, 160, 322, 323, 324, 325, 326, 176, 177, 327, 328, 329, 330, 341, 342, 343, 344, 336, 345, 23, 331, 346, 347, 348, 22, 349, 54, 350, 351, 439, 440, 441, 442, 443, 444, 445, 446, 447, 451, 452, 455, 456, 457, 458, 459, 460, 461, 462, 463, 464, 465, 448, 449, 450] (by decide +kernel) (by decide +kernel)) (goodIn_sub (fun _ h => List.mem_append_right _ h) (by decide +kernel))) (goodIn_sub (fun _ h => List.mem_append_left _ (List.mem_append_right _ h)) (by decide +kernel))
set_option maxRecDepth 20000 in
theorem gL_law_X6_premiumByDays : GoodIn wsL_law (wsV RL 62 RX6 yX6_premiumByDays wsX6_premiumByDays) := goodIn_app (goodIn_of _ (by decide +kernel)) ggL_law_X6_premiumByDays
set_option maxRecDepth 20000 in
theorem ggL_law_L_refuses : GoodIn wsL_law wsL_refuses := goodIn_hd 434 rfl rfl (goodIn_app (goodIn_app (goodIn_app (goodIn_app (goodIn_app (goodIn_app (goodIn_app (goodIn_app (goodIn_app (goodIn_app (goodIn_app (goodIn_r wsL_refuses_r1 [7, 90, 435, 75, 76, 77, 2, 78, 19, 79, 80, 81, 17, 82, 83, 71, 72, 73, 74, 32, 400, 401, 402, 403] (by decide +kernel) (by decide +kernel)) (goodIn_app (goodIn_r wsL_refuses_r2 [194, 195, 196, 197, 173, 174, 18, 198, 199, 200, 201, 202, 203, 204, 205, 206, 207, 208, 209, 210, 211, 212, 213, 214] (by decide +kernel) (by decide +kernel)) (goodIn_app (goodIn_r wsL_refuses_r3 [37, 293, 294, 295, 296, 100, 101, 102, 103, 104, 404, 405, 406, 407, 31, 356, 357, 358, 359, 27, 301, 302, 303, 26] (by decide +kernel) (by decide +kernel)) (goodIn_app (goodIn_r wsL_refuses_r4 [304, 64, 65, 305, 58, 59, 60, 306, 307, 308, 309, 283, 310, 133, 134, 135, 277, 284, 285, 286, 287, 221, 288, 234] (by decide +kernel) (by decide +kernel)) (goodIn_app (goodIn_r wsL_refuses_r5 [227, 311, 312, 313, 314, 315, 316, 317, 318, 319, 320, 321, 159, 160, 322, 323, 324, 325, 326, 176, 177, 327, 328, 329] (by decide +kernel) (by decide +kernel)) (goodIn_app (goodIn_r wsL_refuses_r6 [330, 341, 342, 343, 344, 336, 345, 23, 331, 346, 347, 348, 22, 349, 54, 350, 351, 360, 361, 362, 30, 363, 69, 70] (by decide +kernel) (by decide +kernel)) (goodIn_app (goodIn_r wsL_refuses_r7 [408, 409, 410, 411, 368, 369, 370, 371, 412, 389, 390, 391, 392, 393, 394, 395, 396, 397, 398, 399, 352, 353, 354, 355] (by decide +kernel) (by decide +kernel)) (goodIn_app (goodIn_r wsL_refuses_r8 [364, 365, 366, 367, 84, 85, 5, 86, 87, 88, 89, 8, 91, 92, 93, 94, 95, 96, 97, 98, 99, 105, 106, 107] (by decide +kernel) (by decide +kernel)) (goodIn_app (goodIn_r wsL_refuses_r9 [108, 13, 14, 109, 16, 110, 111, 112, 113, 34, 35, 36, 38, 39, 40, 41, 42, 43, 44, 45, 46, 47, 114, 115] (by decide +kernel) (by decide +kernel)) (goodIn_app (goodIn_r wsL_refuses_r10 [116, 117, 118, 119, 120, 121, 122, 123, 124, 125, 126, 127, 128, 129, 130, 131, 132, 136, 137, 138, 139, 140, 141, 142] (by decide +kernel) (by decide +kernel)) (goodIn_app (goodIn_r wsL_refuses_r11 [143, 144, 145, 146, 147, 148, 149, 150, 151, 152, 153, 154, 155, 156, 157, 158, 161, 162, 163, 164, 165, 166, 167, 168] (by decide +kernel) (by decide +kernel)) (goodIn_app (goodIn_r wsL_refuses_r12 [169, 170, 171, 172, 175, 178, 179, 180, 181, 182, 183, 184, 55, 56, 185, 186, 187, 188, 189, 190, 191, 192, 193, 215] (by decide +kernel) (by decide +kernel)) (goodIn_app (goodIn_r wsL_refuses_r13 [216, 217, 218, 219, 220, 222, 223, 224, 225, 226, 228, 229, 230, 231, 232, 233, 235, 236, 237, 238, 239, 240, 241, 242] (by decide +kernel) (by decide +kernel)) (goodIn_app (goodIn_r wsL_refuses_r14 [243, 244, 245, 246, 247, 248, 249, 250, 251, 252, 253, 254, 255, 256, 257, 258, 259, 260, 261, 262, 263, 264, 265, 266] (by decide +kernel) (by decide +kernel)) (goodIn_app (goodIn_r wsL_refuses_r15 [267, 268, 269, 270, 271, 272, 273, 274, 275, 276, 278, 279, 280, 281, 282, 289, 290, 291, 292, 297, 298, 299, 300, 332] (by decide +kernel) (by decide +kernel)) (goodIn_app (goodIn_r wsL_refuses_r16 [333, 334, 335, 337, 338, 339, 340, 372, 373, 374, 375, 376, 377, 378, 379, 380, 381, 382, 383, 384, 385, 386, 387, 388] (by decide +kernel) (by decide +kernel)) (goodIn_r wsL_refuses_r17 [413, 414, 415, 416, 417, 418, 419, 420, 421, 422, 423, 424, 425] (by decide +kernel) (by decide +kernel)))))))))))))))))) (goodIn_r wsX60 [439, 440, 441, 442, 443, 444] (by decide +kernel) (by decide +kernel))) (goodIn_r wsJx4a65c0 [445, 446, 447] (by decide +kernel) (by decide +kernel))) (goodIn_r wsX40 [451, 452] (by decide +kernel) (by decide +kernel))) (goodIn_r wsX20 [455, 456, 457] (by decide +kernel) (by decide +kernel))) (goodIn_r wsX00 [458, 459, 460, 461, 462, 463, 464, 465] (by decide +kernel) (by decide +kernel))) (goodIn_r wsX30 [448, 449, 450] (by decide +kernel) (by decide +kernel))) (goodIn_r wsX50 [453, 454] (by decide +kernel) (by decide +kernel))) (goodIn_sub (fun _ h => List.mem_append_right _ h) (by decide +kernel))) (goodIn_sub (fun _ h => List.mem_append_left _ (List.mem_append_right _ h)) (by decide +kernel))) (goodIn_sub (fun _ h => List.mem_append_left _ (List.mem_append_left _ (List.mem_append_right _ h))) (by decide +kernel)))
set_option maxRecDepth 20000 in
theorem gL_law_L_refuses : GoodIn wsL_law (va_wsS RL 102 yL_refuses wsL_refuses) := goodIn_app (goodIn_of _ (by decide +kernel)) ggL_law_L_refuses
theorem dL_law_0 : decode cL_law 0 = .ok (.invokestatic 106, 3) := by decide +kernel
theorem dL_law_3 : decode cL_law 3 = .ok (.ifCond .eq 9, 3) := by decide +kernel
theorem dL_law_6 : decode cL_law 6 = .ok (.invokestatic 110, 3) := by decide +kernel
theorem dL_law_9 : decode cL_law 9 = .ok (.ifCond .ne 5, 3) := by decide +kernel
theorem dL_law_12 : decode cL_law 12 = .ok (.iconst 0, 1) := by decide +kernel
theorem dL_law_13 : decode cL_law 13 = .ok (.ireturn, 1) := by decide +kernel
theorem dL_law_14 : decode cL_law 14 = .ok (.new 8, 3) := by decide +kernel
theorem dL_law_17 : decode cL_law 17 = .ok (.dup, 1) := by decide +kernel
theorem dL_law_18 : decode cL_law 18 = .ok (.invokespecial 94, 3) := by decide +kernel
theorem dL_law_21 : decode cL_law 21 = .ok (.astore_n 1, 1) := by decide +kernel
theorem dL_law_22 : decode cL_law 22 = .ok (.aload_n 1, 1) := by decide +kernel
theorem dL_law_23 : decode cL_law 23 = .ok (.bipush 100, 2) := by decide +kernel
theorem dL_law_25 : decode cL_law 25 = .ok (.invokevirtual 7, 3) := by decide +kernel
theorem dL_law_28 : decode cL_law 28 = .ok (.ifCond .eq 5, 3) := by decide +kernel
theorem dL_law_31 : decode cL_law 31 = .ok (.iconst 0, 1) := by decide +kernel
theorem dL_law_32 : decode cL_law 32 = .ok (.ireturn, 1) := by decide +kernel
theorem dL_law_33 : decode cL_law 33 = .ok (.iconst 0, 1) := by decide +kernel
theorem dL_law_34 : decode cL_law 34 = .ok (.istore_n 2, 1) := by decide +kernel
theorem dL_law_35 : decode cL_law 35 = .ok (.iload_n 2, 1) := by decide +kernel
theorem dL_law_36 : decode cL_law 36 = .ok (.bipush 16, 2) := by decide +kernel
theorem dL_law_38 : decode cL_law 38 = .ok (.if_icmp .ge 177, 3) := by decide +kernel
theorem dL_law_41 : decode cL_law 41 = .ok (.aload_n 0, 1) := by decide +kernel
theorem dL_law_42 : decode cL_law 42 = .ok (.arraylength, 1) := by decide +kernel
theorem dL_law_43 : decode cL_law 43 = .ok (.ifCond .ne 10, 3) := by decide +kernel
theorem dL_law_46 : decode cL_law 46 = .ok (.bipush 53, 2) := by decide +kernel
theorem dL_law_48 : decode cL_law 48 = .ok (.iload_n 2, 1) := by decide +kernel
theorem dL_law_49 : decode cL_law 49 = .ok (.imul, 1) := by decide +kernel
theorem dL_law_50 : decode cL_law 50 = .ok (.goto 12, 3) := by decide +kernel
theorem dL_law_53 : decode cL_law 53 = .ok (.aload_n 0, 1) := by decide +kernel
theorem dL_law_54 : decode cL_law 54 = .ok (.iload_n 2, 1) := by decide +kernel
theorem dL_law_55 : decode cL_law 55 = .ok (.aload_n 0, 1) := by decide +kernel
theorem dL_law_56 : decode cL_law 56 = .ok (.arraylength, 1) := by decide +kernel
theorem dL_law_57 : decode cL_law 57 = .ok (.irem, 1) := by decide +kernel
theorem dL_law_58 : decode cL_law 58 = .ok (.iaload, 1) := by decide +kernel
theorem dL_law_59 : decode cL_law 59 = .ok (.bipush 8, 2) := by decide +kernel
theorem dL_law_61 : decode cL_law 61 = .ok (.iushr, 1) := by decide +kernel
theorem dL_law_62 : decode cL_law 62 = .ok (.istore_n 3, 1) := by decide +kernel
theorem dL_law_63 : decode cL_law 63 = .ok (.iload_n 3, 1) := by decide +kernel
theorem dL_law_64 : decode cL_law 64 = .ok (.iconst 3, 1) := by decide +kernel
theorem dL_law_65 : decode cL_law 65 = .ok (.irem, 1) := by decide +kernel
theorem dL_law_66 : decode cL_law 66 = .ok (.ifCond .ne 23, 3) := by decide +kernel
theorem dL_law_69 : decode cL_law 69 = .ok (.aload_n 1, 1) := by decide +kernel
theorem dL_law_70 : decode cL_law 70 = .ok (.iconst 0, 1) := by decide +kernel
theorem dL_law_71 : decode cL_law 71 = .ok (.iload_n 3, 1) := by decide +kernel
theorem dL_law_72 : decode cL_law 72 = .ok (.iconst 3, 1) := by decide +kernel
theorem dL_law_73 : decode cL_law 73 = .ok (.irem, 1) := by decide +kernel
theorem dL_law_74 : decode cL_law 74 = .ok (.iload_n 3, 1) := by decide +kernel
theorem dL_law_75 : decode cL_law 75 = .ok (.sipush 365, 3) := by decide +kernel
theorem dL_law_78 : decode cL_law 78 = .ok (.irem, 1) := by decide +kernel
theorem dL_law_79 : decode cL_law 79 = .ok (.iload_n 3, 1) := by decide +kernel
theorem dL_law_80 : decode cL_law 80 = .ok (.bipush 21, 2) := by decide +kernel
theorem dL_law_82 : decode cL_law 82 = .ok (.irem, 1) := by decide +kernel
theorem dL_law_83 : decode cL_law 83 = .ok (.invokevirtual 20, 3) := by decide +kernel
theorem dL_law_86 : decode cL_law 86 = .ok (.goto 64, 3) := by decide +kernel
theorem dL_law_89 : decode cL_law 89 = .ok (.iload_n 3, 1) := by decide +kernel
theorem dL_law_90 : decode cL_law 90 = .ok (.iconst 3, 1) := by decide +kernel
theorem dL_law_91 : decode cL_law 91 = .ok (.irem, 1) := by decide +kernel
theorem dL_law_92 : decode cL_law 92 = .ok (.iconst 1, 1) := by decide +kernel
theorem dL_law_93 : decode cL_law 93 = .ok (.if_icmp .ne 28, 3) := by decide +kernel
theorem dL_law_96 : decode cL_law 96 = .ok (.aload_n 1, 1) := by decide +kernel
theorem dL_law_97 : decode cL_law 97 = .ok (.iconst 0, 1) := by decide +kernel
theorem dL_law_98 : decode cL_law 98 = .ok (.iload_n 3, 1) := by decide +kernel
theorem dL_law_99 : decode cL_law 99 = .ok (.iconst 3, 1) := by decide +kernel
theorem dL_law_100 : decode cL_law 100 = .ok (.idiv, 1) := by decide +kernel
theorem dL_law_101 : decode cL_law 101 = .ok (.iconst 3, 1) := by decide +kernel
theorem dL_law_102 : decode cL_law 102 = .ok (.irem, 1) := by decide +kernel
theorem dL_law_103 : decode cL_law 103 = .ok (.iload_n 3, 1) := by decide +kernel
theorem dL_law_104 : decode cL_law 104 = .ok (.sipush 365, 3) := by decide +kernel
theorem dL_law_107 : decode cL_law 107 = .ok (.irem, 1) := by decide +kernel
theorem dL_law_108 : decode cL_law 108 = .ok (.iload_n 3, 1) := by decide +kernel
theorem dL_law_109 : decode cL_law 109 = .ok (.bipush 41, 2) := by decide +kernel
theorem dL_law_111 : decode cL_law 111 = .ok (.irem, 1) := by decide +kernel
theorem dL_law_112 : decode cL_law 112 = .ok (.bipush 20, 2) := by decide +kernel
theorem dL_law_114 : decode cL_law 114 = .ok (.isub, 1) := by decide +kernel
theorem dL_law_115 : decode cL_law 115 = .ok (.invokevirtual 24, 3) := by decide +kernel
theorem dL_law_118 : decode cL_law 118 = .ok (.goto 32, 3) := by decide +kernel
theorem dL_law_121 : decode cL_law 121 = .ok (.iload_n 2, 1) := by decide +kernel
theorem dL_law_122 : decode cL_law 122 = .ok (.iconst 2, 1) := by decide +kernel
theorem dL_law_123 : decode cL_law 123 = .ok (.irem, 1) := by decide +kernel
theorem dL_law_124 : decode cL_law 124 = .ok (.ifCond .ne 16, 3) := by decide +kernel
theorem dL_law_127 : decode cL_law 127 = .ok (.aload_n 1, 1) := by decide +kernel
theorem dL_law_128 : decode cL_law 128 = .ok (.iconst 0, 1) := by decide +kernel
theorem dL_law_129 : decode cL_law 129 = .ok (.iload_n 3, 1) := by decide +kernel
theorem dL_law_130 : decode cL_law 130 = .ok (.sipush 365, 3) := by decide +kernel
theorem dL_law_133 : decode cL_law 133 = .ok (.irem, 1) := by decide +kernel
theorem dL_law_134 : decode cL_law 134 = .ok (.invokevirtual 27, 3) := by decide +kernel
theorem dL_law_137 : decode cL_law 137 = .ok (.goto 13, 3) := by decide +kernel
theorem dL_law_140 : decode cL_law 140 = .ok (.aload_n 1, 1) := by decide +kernel
theorem dL_law_141 : decode cL_law 141 = .ok (.iconst 0, 1) := by decide +kernel
theorem dL_law_142 : decode cL_law 142 = .ok (.iload_n 3, 1) := by decide +kernel
theorem dL_law_143 : decode cL_law 143 = .ok (.sipush 365, 3) := by decide +kernel
theorem dL_law_146 : decode cL_law 146 = .ok (.irem, 1) := by decide +kernel
theorem dL_law_147 : decode cL_law 147 = .ok (.invokevirtual 31, 3) := by decide +kernel
theorem dL_law_150 : decode cL_law 150 = .ok (.istore 4, 2) := by decide +kernel
theorem dL_law_152 : decode cL_law 152 = .ok (.iload 4, 2) := by decide +kernel
theorem dL_law_154 : decode cL_law 154 = .ok (.iload_n 2, 1) := by decide +kernel
theorem dL_law_155 : decode cL_law 155 = .ok (.if_icmp .ne 52, 3) := by decide +kernel
theorem dL_law_158 : decode cL_law 158 = .ok (.aload_n 1, 1) := by decide +kernel
theorem dL_law_159 : decode cL_law 159 = .ok (.iconst 1, 1) := by decide +kernel
theorem dL_law_160 : decode cL_law 160 = .ok (.iload_n 3, 1) := by decide +kernel
theorem dL_law_161 : decode cL_law 161 = .ok (.bipush 100, 2) := by decide +kernel
theorem dL_law_163 : decode cL_law 163 = .ok (.irem, 1) := by decide +kernel
theorem dL_law_164 : decode cL_law 164 = .ok (.iadd, 1) := by decide +kernel
theorem dL_law_165 : decode cL_law 165 = .ok (.invokevirtual 17, 3) := by decide +kernel
theorem dL_law_168 : decode cL_law 168 = .ok (.iload_n 2, 1) := by decide +kernel
theorem dL_law_169 : decode cL_law 169 = .ok (.if_icmp .le 38, 3) := by decide +kernel
theorem dL_law_172 : decode cL_law 172 = .ok (.iload_n 2, 1) := by decide +kernel
theorem dL_law_173 : decode cL_law 173 = .ok (.iconst 4, 1) := by decide +kernel
theorem dL_law_174 : decode cL_law 174 = .ok (.irem, 1) := by decide +kernel
theorem dL_law_175 : decode cL_law 175 = .ok (.ifCond .ne 34, 3) := by decide +kernel
theorem dL_law_178 : decode cL_law 178 = .ok (.aload_n 1, 1) := by decide +kernel
theorem dL_law_179 : decode cL_law 179 = .ok (.iconst 0, 1) := by decide +kernel
theorem dL_law_180 : decode cL_law 180 = .ok (.aload_n 1, 1) := by decide +kernel
theorem dL_law_181 : decode cL_law 181 = .ok (.invokevirtual 84, 3) := by decide +kernel
theorem dL_law_184 : decode cL_law 184 = .ok (.invokevirtual 59, 3) := by decide +kernel
theorem dL_law_187 : decode cL_law 187 = .ok (.aload_n 1, 1) := by decide +kernel
theorem dL_law_188 : decode cL_law 188 = .ok (.iconst 0, 1) := by decide +kernel
theorem dL_law_189 : decode cL_law 189 = .ok (.aload_n 1, 1) := by decide +kernel
theorem dL_law_190 : decode cL_law 190 = .ok (.invokevirtual 84, 3) := by decide +kernel
theorem dL_law_193 : decode cL_law 193 = .ok (.invokevirtual 62, 3) := by decide +kernel
theorem dL_law_196 : decode cL_law 196 = .ok (.if_icmp .ne 11, 3) := by decide +kernel
theorem dL_law_199 : decode cL_law 199 = .ok (.aload_n 1, 1) := by decide +kernel
theorem dL_law_200 : decode cL_law 200 = .ok (.iconst 1, 1) := by decide +kernel
theorem dL_law_201 : decode cL_law 201 = .ok (.invokestatic 102, 3) := by decide +kernel
theorem dL_law_204 : decode cL_law 204 = .ok (.ifCond .ne 5, 3) := by decide +kernel
theorem dL_law_207 : decode cL_law 207 = .ok (.iconst 0, 1) := by decide +kernel
theorem dL_law_208 : decode cL_law 208 = .ok (.ireturn, 1) := by decide +kernel
theorem dL_law_209 : decode cL_law 209 = .ok (.iinc 2 1, 3) := by decide +kernel
theorem dL_law_212 : decode cL_law 212 = .ok (.goto (-177), 3) := by decide +kernel
theorem dL_law_215 : decode cL_law 215 = .ok (.aload_n 1, 1) := by decide +kernel
theorem dL_law_216 : decode cL_law 216 = .ok (.iconst 0, 1) := by decide +kernel
theorem dL_law_217 : decode cL_law 217 = .ok (.iconst 0, 1) := by decide +kernel
theorem dL_law_218 : decode cL_law 218 = .ok (.invokevirtual 59, 3) := by decide +kernel
theorem dL_law_221 : decode cL_law 221 = .ok (.ifCond .lt 7, 3) := by decide +kernel
theorem dL_law_224 : decode cL_law 224 = .ok (.iconst 1, 1) := by decide +kernel
theorem dL_law_225 : decode cL_law 225 = .ok (.goto 4, 3) := by decide +kernel
theorem dL_law_228 : decode cL_law 228 = .ok (.iconst 0, 1) := by decide +kernel
theorem dL_law_229 : decode cL_law 229 = .ok (.ireturn, 1) := by decide +kernel

