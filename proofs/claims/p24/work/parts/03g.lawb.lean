set_option maxRecDepth 20000 in
theorem ggL_days_X6_init : GoodIn wsL_days wsX6_init := goodIn_r _ [8, 9, 10, 11, 12, 13, 14, 15, 16, 17, 18, 19, 20, 21, 22, 23, 24, 25, 26, 27, 28, 29, 30, 31, 32, 33, 34, 35, 36, 37, 38, 39, 40, 41, 42, 43, 44, 45, 46, 47, 48, 49, 50, 51, 52, 53, 54, 55, 56, 57, 58, 59, 60, 61, 62, 63, 64, 65, 66, 67, 440, 441, 442, 434, 435, 436, 437, 438, 439, 443, 444, 445, 446, 447, 448, 449] (by decide +kernel) (by decide +kernel)
set_option maxRecDepth 20000 in
theorem gL_days_X6_init : GoodIn wsL_days (wsX6_init) := ggL_days_X6_init
set_option maxRecDepth 20000 in
theorem ggL_days_X6_today : GoodIn wsL_days wsX6_today := goodIn_r _ [71, 29, 434, 435, 436, 437, 438, 439] (by decide +kernel) (by decide +kernel)
set_option maxRecDepth 20000 in
theorem gL_days_X6_today : GoodIn wsL_days (wsV RL 84 RX6 yX6_today wsX6_today) := goodIn_app (goodIn_of _ (by decide +kernel)) ggL_days_X6_today
set_option maxRecDepth 20000 in
theorem ggL_days_X6_changes : GoodIn wsL_days wsX6_changes := goodIn_r _ [75, 16, 76, 77, 78, 14, 79, 80, 434, 435, 436, 437, 438, 439, 440, 441, 442] (by decide +kernel) (by decide +kernel)
set_option maxRecDepth 20000 in
theorem gL_days_X6_changes : GoodIn wsL_days (wsV RL 80 RX6 yX6_changes wsX6_changes) := goodIn_app (goodIn_of _ (by decide +kernel)) ggL_days_X6_changes
set_option maxRecDepth 20000 in
theorem ggL_days_L_act : GoodIn wsL_days wsL_act := goodIn_ca (goodIn_ca (goodIn_ca (goodIn_r _ [84, 85, 86, 87, 4, 88, 5, 89, 90, 91, 3, 92, 93, 94, 15, 95, 96, 97, 98, 99, 100, 101, 102, 76, 77, 78, 14, 79, 80, 103, 104, 105, 106, 10, 11, 107, 13, 108, 109, 110, 111, 31, 32, 33, 34, 35, 36, 37, 38, 39, 40, 41, 42, 43, 44, 112, 113, 114, 115, 116, 117, 118, 119, 120, 121, 122, 123, 124, 125, 126, 127, 128, 129, 130, 131, 132, 133, 134, 135, 136, 137, 138, 139, 140, 141, 142, 143, 144, 145, 56, 146, 147, 148, 149, 150, 151, 152, 153, 154, 155, 156, 157, 158, 159, 160, 161, 162, 163, 164, 165, 166, 20, 167, 168, 169, 170, 171, 172, 173, 174, 175, 176, 177, 178, 179, 180, 181, 19, 182, 52, 51, 53, 183, 184, 185, 186, 29, 187, 188, 189, 190, 191, 192, 193, 194, 195, 196, 197, 198, 199, 200, 201, 202, 203, 204, 205, 206, 207, 208, 209, 210, 211, 212, 213, 214, 215, 216, 16, 217, 218, 219, 220, 221, 222, 223, 224, 225, 226, 227, 228, 229, 230, 231, 232, 233, 234, 235, 236, 237, 238, 239, 240, 241, 242, 243, 244, 245, 246, 247, 248, 249, 250, 251, 252, 253, 254, 255, 256, 257, 258, 259, 260, 261, 262, 263, 264, 265, 266, 267, 268, 269, 270, 271, 272, 273, 274, 275, 276, 277, 278, 279, 280, 281, 282, 283, 284, 285, 286, 287, 288, 289, 290, 24, 291, 292, 293, 294, 295, 296, 297, 298, 299, 300, 301, 23, 302, 61, 62, 303, 55, 57, 304, 305, 306, 307, 308, 309, 310, 311, 312, 313, 314, 315, 316, 317, 318, 319, 320, 321, 322, 323, 324, 325, 326, 327, 328, 329, 330, 331, 332, 333, 334, 335, 336, 337, 338, 339, 340, 341, 342, 343, 344, 345, 346, 347, 348, 349, 350, 351, 352, 353, 28, 354, 355, 356, 357, 358, 359, 360, 27, 361, 66, 67, 362, 363, 364, 365, 366, 367, 368, 369, 370, 371, 372, 373, 374, 375, 376, 377, 378, 379, 380, 381, 382, 383, 384, 385, 386, 387, 388, 389, 390, 391, 392, 393, 394, 395, 396, 397, 398, 399, 400, 401, 402, 403, 404, 405, 406, 407, 408, 409, 410, 411, 412, 413, 414, 415, 416, 417, 418, 419, 420, 421, 422, 423, 434, 435, 436, 437, 438, 439, 450, 451, 452, 440, 441, 442, 443, 444, 445, 453, 454, 455, 456, 457, 458, 459, 460, 446, 447, 448, 449] (by decide +kernel) (by decide +kernel)) (goodIn_sub (fun _ h => List.mem_cons_of_mem _ (List.mem_append_left _ (List.mem_append_left _ (List.mem_append_right _ h)))) (by decide +kernel))) (goodIn_sub (fun _ h => List.mem_cons_of_mem _ (List.mem_append_left _ (List.mem_append_right _ h))) (by decide +kernel))) (goodIn_sub (fun _ h => List.mem_cons_of_mem _ (List.mem_append_right _ h)) (by decide +kernel))
set_option maxRecDepth 20000 in
theorem gL_days_L_act : GoodIn wsL_days (va_wsS RL 88 yL_act wsL_act) := goodIn_app (goodIn_of _ (by decide +kernel)) ggL_days_L_act
set_option maxRecDepth 20000 in
theorem ggL_days_X6_open : GoodIn wsL_days wsX6_open := goodIn_ca (goodIn_ca (goodIn_r _ [92, 93, 94, 15, 95, 96, 97, 98, 99, 3, 100, 101, 102, 76, 77, 78, 14, 79, 80, 103, 104, 105, 106, 10, 11, 107, 13, 108, 109, 110, 111, 31, 32, 33, 34, 35, 36, 37, 38, 39, 40, 41, 42, 43, 44, 112, 113, 114, 115, 116, 117, 118, 119, 120, 121, 122, 123, 124, 125, 126, 127, 128, 129, 130, 131, 132, 133, 134, 135, 136, 137, 138, 139, 140, 141, 142, 143, 144, 145, 56, 146, 147, 148, 149, 150, 151, 152, 153, 154, 155, 156, 157, 158, 159, 160, 161, 162, 434, 435, 436, 437, 438, 439, 450, 451, 452, 440, 441, 442] (by decide +kernel) (by decide +kernel)) (goodIn_sub (fun _ h => List.mem_cons_of_mem _ (List.mem_append_left _ (List.mem_append_left _ (List.mem_append_right _ h)))) (by decide +kernel))) (goodIn_sub (fun _ h => List.mem_cons_of_mem _ (List.mem_append_left _ (List.mem_append_right _ h))) (by decide +kernel))
set_option maxRecDepth 20000 in
theorem gL_days_X6_open : GoodIn wsL_days (wsV RL 7 RX6 yX6_open wsX6_open) := goodIn_app (goodIn_of _ (by decide +kernel)) ggL_days_X6_open
set_option maxRecDepth 20000 in
theorem ggL_days_L_premium : GoodIn wsL_days wsL_premium := goodIn_ca (goodIn_ca (goodIn_r _ [426, 398, 399, 400, 3, 401, 192, 193, 194, 195, 171, 172, 15, 196, 76, 77, 78, 14, 79, 80, 197, 198, 199, 200, 201, 202, 203, 204, 205, 206, 207, 208, 209, 210, 211, 212, 34, 291, 292, 293, 294, 29, 98, 99, 100, 101, 102, 402, 403, 404, 405, 28, 354, 355, 356, 357, 24, 299, 300, 301, 23, 302, 61, 62, 303, 55, 56, 57, 304, 305, 306, 307, 281, 308, 131, 132, 133, 275, 282, 283, 284, 285, 219, 286, 232, 225, 309, 310, 311, 312, 313, 314, 315, 316, 317, 318, 319, 157, 158, 320, 321, 322, 323, 324, 174, 175, 325, 326, 327, 328, 339, 340, 341, 342, 334, 343, 20, 329, 344, 345, 346, 19, 347, 51, 348, 349, 358, 359, 360, 27, 361, 66, 67, 406, 407, 408, 409, 366, 367, 368, 369, 410, 387, 388, 389, 390, 391, 392, 393, 394, 395, 396, 397, 411, 412, 413, 414, 295, 296, 297, 298, 434, 435, 436, 437, 438, 439, 440, 441, 442, 446, 447, 450, 451, 452, 453, 454, 455, 456, 457, 458, 459, 460, 443, 444, 445, 448, 449] (by decide +kernel) (by decide +kernel)) (goodIn_sub (fun _ h => List.mem_cons_of_mem _ (List.mem_append_right _ h)) (by decide +kernel))) (goodIn_sub (fun _ h => List.mem_cons_of_mem _ (List.mem_append_left _ (List.mem_append_right _ h))) (by decide +kernel))
set_option maxRecDepth 20000 in
theorem gL_days_L_premium : GoodIn wsL_days (va_wsS RL 95 yL_premium wsL_premium) := goodIn_app (goodIn_of _ (by decide +kernel)) ggL_days_L_premium
set_option maxRecDepth 20000 in
theorem ggL_days_X6_segments : GoodIn wsL_days wsX6_segments := goodIn_ca (goodIn_ca (goodIn_r _ [353, 28, 192, 193, 194, 3, 195, 171, 172, 15, 196, 76, 77, 78, 14, 79, 80, 197, 198, 199, 200, 201, 202, 203, 204, 205, 206, 207, 208, 209, 210, 211, 212, 34, 291, 292, 293, 294, 29, 98, 99, 100, 101, 102, 354, 355, 356, 357, 24, 299, 300, 301, 23, 302, 61, 62, 303, 55, 56, 57, 304, 305, 306, 307, 281, 308, 131, 132, 133, 275, 282, 283, 284, 285, 219, 286, 232, 225, 309, 310, 311, 312, 313, 314, 315, 316, 317, 318, 319, 157, 158, 320, 321, 322, 323, 324, 174, 175, 325, 326, 327, 328, 339, 340, 341, 342, 334, 343, 20, 329, 344, 345, 346, 19, 347, 51, 348, 349, 358, 359, 360, 27, 361, 66, 67, 362, 363, 364, 365, 366, 367, 368, 369, 434, 435, 436, 437, 438, 439, 440, 441, 442, 446, 447, 450, 451, 452, 453, 454, 455, 456, 457, 458, 459, 460, 443, 444, 445, 448, 449] (by decide +kernel) (by decide +kernel)) (goodIn_sub (fun _ h => List.mem_cons_of_mem _ (List.mem_append_right _ h)) (by decide +kernel))) (goodIn_sub (fun _ h => List.mem_cons_of_mem _ (List.mem_append_left _ (List.mem_append_right _ h))) (by decide +kernel))
set_option maxRecDepth 20000 in
theorem gL_days_X6_segments : GoodIn wsL_days (wsV RL 50 RX6 yX6_segments wsX6_segments) := goodIn_app (goodIn_of _ (by decide +kernel)) ggL_days_X6_segments
set_option maxRecDepth 20000 in
theorem ggL_days_L_segment : GoodIn wsL_days wsL_segment := goodIn_ca (goodIn_ca (goodIn_r _ [429, 370, 371, 372, 3, 373, 291, 292, 293, 294, 29, 98, 99, 100, 101, 102, 374, 375, 376, 377, 171, 172, 28, 192, 193, 194, 195, 15, 196, 76, 77, 78, 14, 79, 80, 197, 198, 199, 200, 201, 202, 203, 204, 205, 206, 207, 208, 209, 210, 211, 212, 34, 354, 355, 356, 357, 24, 299, 300, 301, 23, 302, 61, 62, 303, 55, 56, 57, 304, 305, 306, 307, 281, 308, 131, 132, 133, 275, 282, 283, 284, 285, 219, 286, 232, 225, 309, 310, 311, 312, 313, 314, 315, 316, 317, 318, 319, 157, 158, 320, 321, 322, 323, 324, 174, 175, 325, 326, 327, 328, 339, 340, 341, 342, 334, 343, 20, 329, 344, 345, 346, 19, 347, 51, 348, 349, 358, 359, 360, 27, 361, 66, 67, 378, 379, 380, 381, 366, 367, 368, 369, 382, 383, 384, 385, 386, 387, 388, 389, 390, 391, 392, 393, 394, 395, 396, 397, 434, 435, 436, 437, 438, 439, 440, 441, 442, 446, 447, 450, 451, 452, 453, 454, 455, 456, 457, 458, 459, 460, 443, 444, 445, 448, 449] (by decide +kernel) (by decide +kernel)) (goodIn_sub (fun _ h => List.mem_cons_of_mem _ (List.mem_append_left _ (List.mem_append_right _ h))) (by decide +kernel))) (goodIn_sub (fun _ h => List.mem_cons_of_mem _ (List.mem_append_right _ h)) (by decide +kernel))
set_option maxRecDepth 20000 in
theorem gL_days_L_segment : GoodIn wsL_days (va_wsS RL 98 yL_segment wsL_segment) := goodIn_app (goodIn_of _ (by decide +kernel)) ggL_days_L_segment
set_option maxRecDepth 20000 in
theorem ggL_days_L_refuses : GoodIn wsL_days wsL_refuses := goodIn_hd 432 rfl rfl (goodIn_app (goodIn_app (goodIn_app (goodIn_app (goodIn_app (goodIn_app (goodIn_app (goodIn_app (goodIn_app (goodIn_app (goodIn_app (goodIn_r wsL_refuses_r1 [4, 88, 433, 72, 73, 74, 3, 75, 16, 76, 77, 78, 14, 79, 80, 68, 69, 70, 71, 29, 398, 399, 400, 401] (by decide +kernel) (by decide +kernel)) (goodIn_app (goodIn_r wsL_refuses_r2 [192, 193, 194, 195, 171, 172, 15, 196, 197, 198, 199, 200, 201, 202, 203, 204, 205, 206, 207, 208, 209, 210, 211, 212] (by decide +kernel) (by decide +kernel)) (goodIn_app (goodIn_r wsL_refuses_r3 [34, 291, 292, 293, 294, 98, 99, 100, 101, 102, 402, 403, 404, 405, 28, 354, 355, 356, 357, 24, 299, 300, 301, 23] (by decide +kernel) (by decide +kernel)) (goodIn_app (goodIn_r wsL_refuses_r4 [302, 61, 62, 303, 55, 56, 57, 304, 305, 306, 307, 281, 308, 131, 132, 133, 275, 282, 283, 284, 285, 219, 286, 232] (by decide +kernel) (by decide +kernel)) (goodIn_app (goodIn_r wsL_refuses_r5 [225, 309, 310, 311, 312, 313, 314, 315, 316, 317, 318, 319, 157, 158, 320, 321, 322, 323, 324, 174, 175, 325, 326, 327] (by decide +kernel) (by decide +kernel)) (goodIn_app (goodIn_r wsL_refuses_r6 [328, 339, 340, 341, 342, 334, 343, 20, 329, 344, 345, 346, 19, 347, 51, 348, 349, 358, 359, 360, 27, 361, 66, 67] (by decide +kernel) (by decide +kernel)) (goodIn_app (goodIn_r wsL_refuses_r7 [406, 407, 408, 409, 366, 367, 368, 369, 410, 387, 388, 389, 390, 391, 392, 393, 394, 395, 396, 397, 350, 351, 352, 353] (by decide +kernel) (by decide +kernel)) (goodIn_app (goodIn_r wsL_refuses_r8 [362, 363, 364, 365, 81, 82, 83, 84, 85, 86, 87, 5, 89, 90, 91, 92, 93, 94, 95, 96, 97, 103, 104, 105] (by decide +kernel) (by decide +kernel)) (goodIn_app (goodIn_r wsL_refuses_r9 [106, 10, 11, 107, 13, 108, 109, 110, 111, 31, 32, 33, 35, 36, 37, 38, 39, 40, 41, 42, 43, 44, 112, 113] (by decide +kernel) (by decide +kernel)) (goodIn_app (goodIn_r wsL_refuses_r10 [114, 115, 116, 117, 118, 119, 120, 121, 122, 123, 124, 125, 126, 127, 128, 129, 130, 134, 135, 136, 137, 138, 139, 140] (by decide +kernel) (by decide +kernel)) (goodIn_app (goodIn_r wsL_refuses_r11 [141, 142, 143, 144, 145, 146, 147, 148, 149, 150, 151, 152, 153, 154, 155, 156, 159, 160, 161, 162, 163, 164, 165, 166] (by decide +kernel) (by decide +kernel)) (goodIn_app (goodIn_r wsL_refuses_r12 [167, 168, 169, 170, 173, 176, 177, 178, 179, 180, 181, 182, 52, 53, 183, 184, 185, 186, 187, 188, 189, 190, 191, 213] (by decide +kernel) (by decide +kernel)) (goodIn_app (goodIn_r wsL_refuses_r13 [214, 215, 216, 217, 218, 220, 221, 222, 223, 224, 226, 227, 228, 229, 230, 231, 233, 234, 235, 236, 237, 238, 239, 240] (by decide +kernel) (by decide +kernel)) (goodIn_app (goodIn_r wsL_refuses_r14 [241, 242, 243, 244, 245, 246, 247, 248, 249, 250, 251, 252, 253, 254, 255, 256, 257, 258, 259, 260, 261, 262, 263, 264] (by decide +kernel) (by decide +kernel)) (goodIn_app (goodIn_r wsL_refuses_r15 [265, 266, 267, 268, 269, 270, 271, 272, 273, 274, 276, 277, 278, 279, 280, 287, 288, 289, 290, 295, 296, 297, 298, 330] (by decide +kernel) (by decide +kernel)) (goodIn_app (goodIn_r wsL_refuses_r16 [331, 332, 333, 335, 336, 337, 338, 370, 371, 372, 373, 374, 375, 376, 377, 378, 379, 380, 381, 382, 383, 384, 385, 386] (by decide +kernel) (by decide +kernel)) (goodIn_r wsL_refuses_r17 [411, 412, 413, 414, 415, 416, 417, 418, 419, 420, 421, 422, 423] (by decide +kernel) (by decide +kernel)))))))))))))))))) (goodIn_r wsX60 [434, 435, 436, 437, 438, 439] (by decide +kernel) (by decide +kernel))) (goodIn_r wsJx4a65c0 [440, 441, 442] (by decide +kernel) (by decide +kernel))) (goodIn_r wsX40 [446, 447] (by decide +kernel) (by decide +kernel))) (goodIn_r wsX20 [450, 451, 452] (by decide +kernel) (by decide +kernel))) (goodIn_r wsX00 [453, 454, 455, 456, 457, 458, 459, 460] (by decide +kernel) (by decide +kernel))) (goodIn_r wsX30 [443, 444, 445] (by decide +kernel) (by decide +kernel))) (goodIn_r wsX50 [448, 449] (by decide +kernel) (by decide +kernel))) (goodIn_sub (fun _ h => List.mem_cons_of_mem _ (List.mem_append_right _ h)) (by decide +kernel))) (goodIn_sub (fun _ h => List.mem_cons_of_mem _ (List.mem_append_left _ (List.mem_append_right _ h))) (by decide +kernel))) (goodIn_sub (fun _ h => List.mem_cons_of_mem _ (List.mem_append_left _ (List.mem_append_left _ (List.mem_append_right _ h)))) (by decide +kernel)))
set_option maxRecDepth 20000 in
theorem gL_days_L_refuses : GoodIn wsL_days (va_wsS RL 102 yL_refuses wsL_refuses) := goodIn_app (goodIn_of _ (by decide +kernel)) ggL_days_L_refuses
set_option maxRecDepth 20000 in
theorem ggL_days_X6_change : GoodIn wsL_days wsX6_change := goodIn_ca (goodIn_ca (goodIn_ca (goodIn_r _ [190, 191, 192, 193, 194, 3, 195, 171, 172, 15, 196, 76, 77, 78, 14, 79, 80, 197, 198, 199, 200, 201, 202, 203, 204, 205, 206, 207, 208, 209, 210, 211, 212, 34, 168, 169, 170, 173, 174, 175, 176, 177, 178, 98, 99, 100, 101, 102, 213, 214, 215, 216, 93, 94, 16, 217, 218, 219, 29, 220, 221, 222, 223, 224, 10, 11, 225, 226, 227, 228, 229, 230, 231, 232, 112, 113, 114, 115, 116, 117, 118, 119, 120, 121, 122, 123, 124, 125, 126, 127, 128, 129, 33, 130, 131, 132, 133, 134, 135, 136, 137, 138, 139, 140, 141, 142, 143, 144, 145, 56, 146, 147, 148, 149, 150, 151, 152, 153, 154, 155, 156, 157, 158, 159, 160, 161, 162, 233, 234, 235, 97, 236, 108, 237, 238, 239, 240, 241, 242, 243, 244, 245, 246, 247, 248, 249, 434, 435, 436, 437, 438, 439, 440, 441, 442, 453, 454, 455, 456, 457, 458, 459, 460, 450, 451, 452] (by decide +kernel) (by decide +kernel)) (goodIn_sub (fun _ h => List.mem_cons_of_mem _ (List.mem_append_right _ h)) (by decide +kernel))) (goodIn_sub (fun _ h => List.mem_cons_of_mem _ (List.mem_append_left _ (List.mem_append_right _ h))) (by decide +kernel))) (goodIn_sub (fun _ h => List.mem_cons_of_mem _ (List.mem_append_left _ (List.mem_append_left _ (List.mem_append_right _ h)))) (by decide +kernel))
set_option maxRecDepth 20000 in
theorem gL_days_X6_change : GoodIn wsL_days (wsV RL 20 RX6 yX6_change wsX6_change) := goodIn_app (goodIn_of _ (by decide +kernel)) ggL_days_X6_change
set_option maxRecDepth 20000 in
theorem ggL_days_X6_rate : GoodIn wsL_days wsX6_rate := goodIn_ca (goodIn_ca (goodIn_r _ [338, 192, 193, 194, 3, 195, 171, 172, 15, 196, 76, 77, 78, 14, 79, 80, 197, 198, 199, 200, 201, 202, 203, 204, 205, 206, 207, 208, 209, 210, 211, 212, 34, 176, 177, 178, 98, 99, 100, 101, 102, 291, 292, 293, 294, 29, 295, 296, 297, 298, 24, 299, 300, 301, 23, 302, 61, 62, 303, 55, 56, 57, 304, 305, 306, 307, 281, 308, 131, 132, 133, 275, 282, 283, 284, 285, 219, 286, 232, 225, 309, 310, 311, 312, 313, 314, 315, 316, 317, 318, 319, 157, 158, 320, 321, 322, 323, 324, 174, 175, 325, 326, 327, 328, 339, 340, 341, 342, 334, 343, 20, 329, 344, 345, 346, 19, 347, 51, 348, 349, 434, 435, 436, 437, 438, 439, 440, 441, 442, 446, 447, 450, 451, 452, 453, 454, 455, 456, 457, 458, 459, 460, 443, 444, 445] (by decide +kernel) (by decide +kernel)) (goodIn_sub (fun _ h => List.mem_cons_of_mem _ (List.mem_append_right _ h)) (by decide +kernel))) (goodIn_sub (fun _ h => List.mem_cons_of_mem _ (List.mem_append_left _ (List.mem_append_right _ h))) (by decide +kernel))
set_option maxRecDepth 20000 in
theorem gL_days_X6_rate : GoodIn wsL_days (wsV RL 47 RX6 yX6_rate wsX6_rate) := goodIn_app (goodIn_of _ (by decide +kernel)) ggL_days_X6_rate
set_option maxRecDepth 20000 in
theorem ggL_days_X6_setWeight : GoodIn wsL_days wsX6_setWeight := goodIn_ca (goodIn_ca (goodIn_ca (goodIn_r _ [166, 93, 94, 20, 167, 168, 169, 3, 170, 171, 172, 173, 174, 175, 98, 99, 100, 101, 102, 176, 177, 178, 179, 180, 181, 19, 182, 52, 51, 53, 434, 435, 436, 437, 438, 439, 443, 444, 445] (by decide +kernel) (by decide +kernel)) (goodIn_sub (fun _ h => List.mem_cons_of_mem _ (List.mem_append_left _ (List.mem_append_left _ (List.mem_append_right _ h)))) (by decide +kernel))) (goodIn_sub (fun _ h => List.mem_cons_of_mem _ (List.mem_append_right _ h)) (by decide +kernel))) (goodIn_sub (fun _ h => List.mem_cons_of_mem _ (List.mem_append_left _ (List.mem_append_right _ h))) (by decide +kernel))
set_option maxRecDepth 20000 in
theorem gL_days_X6_setWeight : GoodIn wsL_days (wsV RL 13 RX6 yX6_setWeight wsX6_setWeight) := goodIn_app (goodIn_of _ (by decide +kernel)) ggL_days_X6_setWeight
set_option maxRecDepth 20000 in
theorem ggL_days_X6_pass : GoodIn wsL_days wsX6_pass := goodIn_ca (goodIn_r _ [186, 29, 98, 99, 3, 100, 101, 102, 434, 435, 436, 437, 438, 439] (by decide +kernel) (by decide +kernel)) (goodIn_sub (fun _ h => List.mem_cons_of_mem _ (List.mem_append_left _ (List.mem_append_right _ h))) (by decide +kernel))
set_option maxRecDepth 20000 in
theorem gL_days_X6_pass : GoodIn wsL_days (wsV RL 17 RX6 yX6_pass wsX6_pass) := goodIn_app (goodIn_of _ (by decide +kernel)) ggL_days_X6_pass
set_option maxRecDepth 20000 in
theorem ggL_days_X6_add : GoodIn wsL_days wsX6_add := goodIn_ca (goodIn_ca (goodIn_ca (goodIn_r _ [253, 254, 192, 193, 194, 3, 195, 171, 172, 15, 196, 76, 77, 78, 14, 79, 80, 197, 198, 199, 200, 201, 202, 203, 204, 205, 206, 207, 208, 209, 210, 211, 212, 34, 168, 169, 170, 173, 174, 175, 176, 177, 178, 98, 99, 100, 101, 102, 213, 214, 215, 216, 93, 94, 16, 217, 218, 219, 29, 220, 221, 222, 223, 224, 10, 11, 225, 226, 227, 228, 229, 230, 231, 232, 112, 113, 114, 115, 116, 117, 118, 119, 120, 121, 122, 123, 124, 125, 126, 127, 128, 129, 33, 130, 131, 132, 133, 134, 135, 136, 137, 138, 139, 140, 141, 142, 143, 144, 145, 56, 146, 147, 148, 149, 150, 151, 152, 153, 154, 155, 156, 157, 158, 159, 160, 161, 162, 233, 234, 235, 97, 236, 108, 237, 238, 239, 240, 241, 242, 243, 244, 245, 246, 247, 248, 249, 434, 435, 436, 437, 438, 439, 440, 441, 442, 453, 454, 455, 456, 457, 458, 459, 460, 450, 451, 452] (by decide +kernel) (by decide +kernel)) (goodIn_sub (fun _ h => List.mem_cons_of_mem _ (List.mem_append_right _ h)) (by decide +kernel))) (goodIn_sub (fun _ h => List.mem_cons_of_mem _ (List.mem_append_left _ (List.mem_append_right _ h))) (by decide +kernel))) (goodIn_sub (fun _ h => List.mem_cons_of_mem _ (List.mem_append_left _ (List.mem_append_left _ (List.mem_append_right _ h)))) (by decide +kernel))
set_option maxRecDepth 20000 in
theorem gL_days_X6_add : GoodIn wsL_days (wsV RL 24 RX6 yX6_add wsX6_add) := goodIn_app (goodIn_of _ (by decide +kernel)) ggL_days_X6_add
set_option maxRecDepth 20000 in
theorem ggL_days_X6_value : GoodIn wsL_days wsX6_value := goodIn_ca (goodIn_ca (goodIn_r _ [290, 24, 192, 193, 194, 3, 195, 171, 172, 15, 196, 76, 77, 78, 14, 79, 80, 197, 198, 199, 200, 201, 202, 203, 204, 205, 206, 207, 208, 209, 210, 211, 212, 34, 168, 169, 170, 173, 174, 175, 176, 177, 178, 98, 99, 100, 101, 102, 291, 292, 293, 294, 29, 295, 296, 297, 298, 299, 300, 301, 23, 302, 61, 62, 303, 55, 56, 57, 304, 305, 306, 307, 281, 308, 131, 132, 133, 275, 282, 283, 284, 285, 219, 286, 232, 225, 309, 310, 311, 312, 313, 314, 315, 316, 317, 318, 319, 157, 158, 320, 321, 322, 323, 324, 325, 326, 327, 328, 329, 434, 435, 436, 437, 438, 439, 440, 441, 442, 446, 447, 450, 451, 452, 453, 454, 455, 456, 457, 458, 459, 460] (by decide +kernel) (by decide +kernel)) (goodIn_sub (fun _ h => List.mem_cons_of_mem _ (List.mem_append_right _ h)) (by decide +kernel))) (goodIn_sub (fun _ h => List.mem_cons_of_mem _ (List.mem_append_left _ (List.mem_append_right _ h))) (by decide +kernel))
set_option maxRecDepth 20000 in
theorem gL_days_X6_value : GoodIn wsL_days (wsV RL 40 RX6 yX6_value wsX6_value) := goodIn_app (goodIn_of _ (by decide +kernel)) ggL_days_X6_value
set_option maxRecDepth 20000 in
theorem ggL_days_X6_laidAnew : GoodIn wsL_days wsX6_laidAnew := goodIn_ca (goodIn_r _ [279, 280, 281, 275, 220, 282, 29, 271, 272, 273, 3, 274, 171, 172, 16, 76, 77, 78, 14, 79, 80, 197, 198, 199, 200, 201, 202, 203, 204, 205, 206, 207, 208, 209, 210, 211, 212, 34, 283, 284, 285, 219, 286, 232, 225, 453, 454, 455, 456, 457, 458, 459, 460, 450, 451, 452, 434, 435, 436, 437, 438, 439, 440, 441, 442] (by decide +kernel) (by decide +kernel)) (goodIn_sub (fun _ h => List.mem_cons_of_mem _ (List.mem_append_right _ h)) (by decide +kernel))
set_option maxRecDepth 20000 in
theorem gL_days_X6_laidAnew : GoodIn wsL_days (wsV RL 37 RX6 yX6_laidAnew wsX6_laidAnew) := goodIn_app (goodIn_of _ (by decide +kernel)) ggL_days_X6_laidAnew
set_option maxRecDepth 20000 in
theorem ggL_days_X6_takeBack : GoodIn wsL_days wsX6_takeBack := goodIn_ca (goodIn_ca (goodIn_r _ [268, 93, 94, 269, 29, 270, 271, 272, 273, 3, 274, 171, 172, 16, 275, 76, 77, 78, 14, 79, 80, 197, 198, 199, 200, 201, 202, 203, 204, 205, 206, 207, 208, 209, 210, 211, 212, 34, 453, 454, 455, 456, 457, 458, 459, 460, 434, 435, 436, 437, 438, 439, 440, 441, 442] (by decide +kernel) (by decide +kernel)) (goodIn_sub (fun _ h => List.mem_cons_of_mem _ (List.mem_append_left _ (List.mem_append_left _ (List.mem_append_right _ h)))) (by decide +kernel))) (goodIn_sub (fun _ h => List.mem_cons_of_mem _ (List.mem_append_right _ h)) (by decide +kernel))
set_option maxRecDepth 20000 in
theorem gL_days_X6_takeBack : GoodIn wsL_days (wsV RL 34 RX6 yX6_takeBack wsX6_takeBack) := goodIn_app (goodIn_of _ (by decide +kernel)) ggL_days_X6_takeBack
set_option maxRecDepth 20000 in
theorem ggL_days_X6_billed : GoodIn wsL_days wsX6_billed := goodIn_ca (goodIn_r _ [423, 419, 192, 193, 194, 3, 195, 171, 172, 15, 196, 76, 77, 78, 14, 79, 80, 197, 198, 199, 200, 201, 202, 203, 204, 205, 206, 207, 208, 209, 210, 211, 212, 34, 450, 451, 452, 434, 435, 436, 437, 438, 439, 440, 441, 442] (by decide +kernel) (by decide +kernel)) (goodIn_sub (fun _ h => List.mem_cons_of_mem _ (List.mem_append_right _ h)) (by decide +kernel))
set_option maxRecDepth 20000 in
theorem gL_days_X6_billed : GoodIn wsL_days (wsV RL 68 RX6 yX6_billed wsX6_billed) := goodIn_app (goodIn_of _ (by decide +kernel)) ggL_days_X6_billed
set_option maxRecDepth 20000 in
theorem ggL_days_X6_bill : GoodIn wsL_days wsX6_bill := goodIn_ca (goodIn_r _ [418, 29, 419, 192, 193, 194, 3, 195, 171, 172, 15, 196, 76, 77, 78, 14, 79, 80, 197, 198, 199, 200, 201, 202, 203, 204, 205, 206, 207, 208, 209, 210, 211, 212, 34, 402, 403, 404, 405, 28, 354, 355, 356, 357, 24, 299, 300, 301, 23, 302, 61, 62, 303, 55, 56, 57, 304, 305, 306, 307, 281, 308, 131, 132, 133, 275, 282, 283, 284, 285, 219, 286, 232, 225, 309, 310, 311, 312, 313, 314, 315, 316, 317, 318, 319, 157, 158, 320, 321, 322, 323, 324, 174, 175, 325, 326, 327, 328, 339, 340, 341, 342, 334, 343, 20, 329, 344, 345, 346, 19, 347, 51, 348, 349, 358, 359, 360, 27, 361, 66, 67, 406, 407, 408, 409, 366, 367, 368, 369, 410, 387, 388, 389, 390, 391, 392, 393, 394, 395, 396, 397, 434, 435, 436, 437, 438, 439, 450, 451, 452, 440, 441, 442, 446, 447, 453, 454, 455, 456, 457, 458, 459, 460, 443, 444, 445, 448, 449] (by decide +kernel) (by decide +kernel)) (goodIn_sub (fun _ h => List.mem_cons_of_mem _ (List.mem_append_right _ h)) (by decide +kernel))
set_option maxRecDepth 20000 in
theorem gL_days_X6_bill : GoodIn wsL_days (wsV RL 65 RX6 yX6_bill wsX6_bill) := goodIn_app (goodIn_of _ (by decide +kernel)) ggL_days_X6_bill
set_option maxRecDepth 20000 in
theorem ggL_days_X6_cancel : GoodIn wsL_days wsX6_cancel := goodIn_ca (goodIn_ca (goodIn_ca (goodIn_r _ [258, 259, 192, 193, 194, 3, 195, 171, 172, 15, 196, 76, 77, 78, 14, 79, 80, 197, 198, 199, 200, 201, 202, 203, 204, 205, 206, 207, 208, 209, 210, 211, 212, 34, 176, 177, 178, 98, 99, 100, 101, 102, 213, 214, 215, 216, 93, 94, 16, 217, 218, 219, 29, 220, 221, 222, 223, 224, 10, 11, 225, 226, 227, 228, 229, 230, 231, 232, 112, 113, 114, 115, 116, 117, 118, 119, 120, 121, 122, 123, 124, 125, 126, 127, 128, 129, 33, 130, 131, 132, 133, 134, 135, 136, 137, 138, 139, 140, 141, 142, 143, 144, 145, 56, 146, 147, 148, 149, 150, 151, 152, 153, 154, 155, 156, 157, 158, 159, 160, 161, 162, 233, 234, 235, 97, 236, 108, 237, 238, 239, 240, 241, 242, 243, 244, 245, 246, 247, 248, 249, 434, 435, 436, 437, 438, 439, 440, 441, 442, 453, 454, 455, 456, 457, 458, 459, 460, 450, 451, 452] (by decide +kernel) (by decide +kernel)) (goodIn_sub (fun _ h => List.mem_cons_of_mem _ (List.mem_append_right _ h)) (by decide +kernel))) (goodIn_sub (fun _ h => List.mem_cons_of_mem _ (List.mem_append_left _ (List.mem_append_right _ h))) (by decide +kernel))) (goodIn_sub (fun _ h => List.mem_cons_of_mem _ (List.mem_append_left _ (List.mem_append_left _ (List.mem_append_right _ h)))) (by decide +kernel))
set_option maxRecDepth 20000 in
theorem gL_days_X6_cancel : GoodIn wsL_days (wsV RL 27 RX6 yX6_cancel wsX6_cancel) := goodIn_app (goodIn_of _ (by decide +kernel)) ggL_days_X6_cancel
set_option maxRecDepth 20000 in
theorem ggL_days_X6_isCovered : GoodIn wsL_days wsX6_isCovered := goodIn_ca (goodIn_ca (goodIn_r _ [333, 24, 334, 192, 193, 194, 3, 195, 171, 172, 15, 196, 76, 77, 78, 14, 79, 80, 197, 198, 199, 200, 201, 202, 203, 204, 205, 206, 207, 208, 209, 210, 211, 212, 34, 176, 177, 178, 98, 99, 100, 101, 102, 291, 292, 293, 294, 29, 295, 296, 297, 298, 299, 300, 301, 23, 302, 61, 62, 303, 55, 56, 57, 304, 305, 306, 307, 281, 308, 131, 132, 133, 275, 282, 283, 284, 285, 219, 286, 232, 225, 309, 310, 311, 312, 313, 314, 315, 316, 317, 318, 319, 157, 158, 320, 321, 322, 323, 324, 174, 175, 325, 326, 327, 328, 434, 435, 436, 437, 438, 439, 446, 447, 440, 441, 442, 450, 451, 452, 453, 454, 455, 456, 457, 458, 459, 460] (by decide +kernel) (by decide +kernel)) (goodIn_sub (fun _ h => List.mem_cons_of_mem _ (List.mem_append_right _ h)) (by decide +kernel))) (goodIn_sub (fun _ h => List.mem_cons_of_mem _ (List.mem_append_left _ (List.mem_append_right _ h))) (by decide +kernel))
set_option maxRecDepth 20000 in
theorem gL_days_X6_isCovered : GoodIn wsL_days (wsV RL 43 RX6 yX6_isCovered wsX6_isCovered) := goodIn_app (goodIn_of _ (by decide +kernel)) ggL_days_X6_isCovered
set_option maxRecDepth 20000 in
theorem ggL_days_X6_reinstate : GoodIn wsL_days wsX6_reinstate := goodIn_ca (goodIn_ca (goodIn_ca (goodIn_r _ [263, 264, 192, 193, 194, 3, 195, 171, 172, 15, 196, 76, 77, 78, 14, 79, 80, 197, 198, 199, 200, 201, 202, 203, 204, 205, 206, 207, 208, 209, 210, 211, 212, 34, 176, 177, 178, 98, 99, 100, 101, 102, 213, 214, 215, 216, 93, 94, 16, 217, 218, 219, 29, 220, 221, 222, 223, 224, 10, 11, 225, 226, 227, 228, 229, 230, 231, 232, 112, 113, 114, 115, 116, 117, 118, 119, 120, 121, 122, 123, 124, 125, 126, 127, 128, 129, 33, 130, 131, 132, 133, 134, 135, 136, 137, 138, 139, 140, 141, 142, 143, 144, 145, 56, 146, 147, 148, 149, 150, 151, 152, 153, 154, 155, 156, 157, 158, 159, 160, 161, 162, 233, 234, 235, 97, 236, 108, 237, 238, 239, 240, 241, 242, 243, 244, 245, 246, 247, 248, 249, 434, 435, 436, 437, 438, 439, 440, 441, 442, 453, 454, 455, 456, 457, 458, 459, 460, 450, 451, 452] (by decide +kernel) (by decide +kernel)) (goodIn_sub (fun _ h => List.mem_cons_of_mem _ (List.mem_append_right _ h)) (by decide +kernel))) (goodIn_sub (fun _ h => List.mem_cons_of_mem _ (List.mem_append_left _ (List.mem_append_right _ h))) (by decide +kernel))) (goodIn_sub (fun _ h => List.mem_cons_of_mem _ (List.mem_append_left _ (List.mem_append_left _ (List.mem_append_right _ h)))) (by decide +kernel))
set_option maxRecDepth 20000 in
theorem gL_days_X6_reinstate : GoodIn wsL_days (wsV RL 31 RX6 yX6_reinstate wsX6_reinstate) := goodIn_app (goodIn_of _ (by decide +kernel)) ggL_days_X6_reinstate
theorem dL_days_0 : decode cL_days 0 = .ok (.new 8, 3) := by decide +kernel
theorem dL_days_3 : decode cL_days 3 = .ok (.dup, 1) := by decide +kernel
theorem dL_days_4 : decode cL_days 4 = .ok (.invokespecial 94, 3) := by decide +kernel
theorem dL_days_7 : decode cL_days 7 = .ok (.astore_n 0, 1) := by decide +kernel
theorem dL_days_8 : decode cL_days 8 = .ok (.aload_n 0, 1) := by decide +kernel
theorem dL_days_9 : decode cL_days 9 = .ok (.invokevirtual 84, 3) := by decide +kernel
theorem dL_days_12 : decode cL_days 12 = .ok (.ifCond .ne 385, 3) := by decide +kernel
theorem dL_days_15 : decode cL_days 15 = .ok (.aload_n 0, 1) := by decide +kernel
theorem dL_days_16 : decode cL_days 16 = .ok (.invokevirtual 80, 3) := by decide +kernel
theorem dL_days_19 : decode cL_days 19 = .ok (.ifCond .ne 378, 3) := by decide +kernel
theorem dL_days_22 : decode cL_days 22 = .ok (.aload_n 0, 1) := by decide +kernel
theorem dL_days_23 : decode cL_days 23 = .ok (.bipush 12, 2) := by decide +kernel
theorem dL_days_25 : decode cL_days 25 = .ok (.iconst 0, 1) := by decide +kernel
theorem dL_days_26 : decode cL_days 26 = .ok (.iconst 0, 1) := by decide +kernel
theorem dL_days_27 : decode cL_days 27 = .ok (.iconst 0, 1) := by decide +kernel
theorem dL_days_28 : decode cL_days 28 = .ok (.iconst 0, 1) := by decide +kernel
theorem dL_days_29 : decode cL_days 29 = .ok (.invokestatic 88, 3) := by decide +kernel
theorem dL_days_32 : decode cL_days 32 = .ok (.ldc 73, 2) := by decide +kernel
theorem dL_days_34 : decode cL_days 34 = .ok (.if_icmp .ne 363, 3) := by decide +kernel
theorem dL_days_37 : decode cL_days 37 = .ok (.aload_n 0, 1) := by decide +kernel
theorem dL_days_38 : decode cL_days 38 = .ok (.sipush 365, 3) := by decide +kernel
theorem dL_days_41 : decode cL_days 41 = .ok (.invokevirtual 7, 3) := by decide +kernel
theorem dL_days_44 : decode cL_days 44 = .ok (.ifCond .ne 353, 3) := by decide +kernel
theorem dL_days_47 : decode cL_days 47 = .ok (.aload_n 0, 1) := by decide +kernel
theorem dL_days_48 : decode cL_days 48 = .ok (.iconst 0, 1) := by decide +kernel
theorem dL_days_49 : decode cL_days 49 = .ok (.sipush 365, 3) := by decide +kernel
theorem dL_days_52 : decode cL_days 52 = .ok (.invokestatic 95, 3) := by decide +kernel
theorem dL_days_55 : decode cL_days 55 = .ok (.ifCond .eq 342, 3) := by decide +kernel
theorem dL_days_58 : decode cL_days 58 = .ok (.aload_n 0, 1) := by decide +kernel
theorem dL_days_59 : decode cL_days 59 = .ok (.iconst 0, 1) := by decide +kernel
theorem dL_days_60 : decode cL_days 60 = .ok (.iconst 0, 1) := by decide +kernel
theorem dL_days_61 : decode cL_days 61 = .ok (.invokevirtual 50, 3) := by decide +kernel
theorem dL_days_64 : decode cL_days 64 = .ok (.iconst 1, 1) := by decide +kernel
theorem dL_days_65 : decode cL_days 65 = .ok (.if_icmp .ne 332, 3) := by decide +kernel
theorem dL_days_68 : decode cL_days 68 = .ok (.aload_n 0, 1) := by decide +kernel
theorem dL_days_69 : decode cL_days 69 = .ok (.iconst 0, 1) := by decide +kernel
theorem dL_days_70 : decode cL_days 70 = .ok (.iconst 0, 1) := by decide +kernel
theorem dL_days_71 : decode cL_days 71 = .ok (.iconst 0, 1) := by decide +kernel
theorem dL_days_72 : decode cL_days 72 = .ok (.sipush 365, 3) := by decide +kernel
theorem dL_days_75 : decode cL_days 75 = .ok (.invokestatic 98, 3) := by decide +kernel
theorem dL_days_78 : decode cL_days 78 = .ok (.ifCond .eq 319, 3) := by decide +kernel
theorem dL_days_81 : decode cL_days 81 = .ok (.aload_n 0, 1) := by decide +kernel
theorem dL_days_82 : decode cL_days 82 = .ok (.iconst 1, 1) := by decide +kernel
theorem dL_days_83 : decode cL_days 83 = .ok (.invokestatic 102, 3) := by decide +kernel
theorem dL_days_86 : decode cL_days 86 = .ok (.ifCond .eq 311, 3) := by decide +kernel
theorem dL_days_89 : decode cL_days 89 = .ok (.aload_n 0, 1) := by decide +kernel
theorem dL_days_90 : decode cL_days 90 = .ok (.iconst 0, 1) := by decide +kernel
theorem dL_days_91 : decode cL_days 91 = .ok (.iconst 0, 1) := by decide +kernel
theorem dL_days_92 : decode cL_days 92 = .ok (.bipush 100, 2) := by decide +kernel
theorem dL_days_94 : decode cL_days 94 = .ok (.bipush 10, 2) := by decide +kernel
theorem dL_days_96 : decode cL_days 96 = .ok (.invokevirtual 20, 3) := by decide +kernel
theorem dL_days_99 : decode cL_days 99 = .ok (.ifCond .ne 298, 3) := by decide +kernel
theorem dL_days_102 : decode cL_days 102 = .ok (.aload_n 0, 1) := by decide +kernel
theorem dL_days_103 : decode cL_days 103 = .ok (.iconst 0, 1) := by decide +kernel
theorem dL_days_104 : decode cL_days 104 = .ok (.sipush 372, 3) := by decide +kernel
theorem dL_days_107 : decode cL_days 107 = .ok (.invokestatic 95, 3) := by decide +kernel
theorem dL_days_110 : decode cL_days 110 = .ok (.ifCond .eq 287, 3) := by decide +kernel
theorem dL_days_113 : decode cL_days 113 = .ok (.aload_n 0, 1) := by decide +kernel
theorem dL_days_114 : decode cL_days 114 = .ok (.iconst 0, 1) := by decide +kernel
theorem dL_days_115 : decode cL_days 115 = .ok (.iconst 0, 1) := by decide +kernel
theorem dL_days_116 : decode cL_days 116 = .ok (.invokevirtual 50, 3) := by decide +kernel
theorem dL_days_119 : decode cL_days 119 = .ok (.iconst 2, 1) := by decide +kernel
theorem dL_days_120 : decode cL_days 120 = .ok (.if_icmp .ne 277, 3) := by decide +kernel
theorem dL_days_123 : decode cL_days 123 = .ok (.aload_n 0, 1) := by decide +kernel
theorem dL_days_124 : decode cL_days 124 = .ok (.iconst 0, 1) := by decide +kernel
theorem dL_days_125 : decode cL_days 125 = .ok (.iconst 0, 1) := by decide +kernel
theorem dL_days_126 : decode cL_days 126 = .ok (.iconst 0, 1) := by decide +kernel
theorem dL_days_127 : decode cL_days 127 = .ok (.bipush 100, 2) := by decide +kernel
theorem dL_days_129 : decode cL_days 129 = .ok (.invokestatic 98, 3) := by decide +kernel
theorem dL_days_132 : decode cL_days 132 = .ok (.ifCond .eq 265, 3) := by decide +kernel
theorem dL_days_135 : decode cL_days 135 = .ok (.aload_n 0, 1) := by decide +kernel
theorem dL_days_136 : decode cL_days 136 = .ok (.iconst 1, 1) := by decide +kernel
theorem dL_days_137 : decode cL_days 137 = .ok (.iconst 0, 1) := by decide +kernel
theorem dL_days_138 : decode cL_days 138 = .ok (.bipush 100, 2) := by decide +kernel
theorem dL_days_140 : decode cL_days 140 = .ok (.sipush 272, 3) := by decide +kernel
theorem dL_days_143 : decode cL_days 143 = .ok (.invokestatic 98, 3) := by decide +kernel
theorem dL_days_146 : decode cL_days 146 = .ok (.ifCond .eq 251, 3) := by decide +kernel
theorem dL_days_149 : decode cL_days 149 = .ok (.aload_n 0, 1) := by decide +kernel
theorem dL_days_150 : decode cL_days 150 = .ok (.iconst 0, 1) := by decide +kernel
theorem dL_days_151 : decode cL_days 151 = .ok (.bipush 99, 2) := by decide +kernel
theorem dL_days_153 : decode cL_days 153 = .ok (.iconst 0, 1) := by decide +kernel
theorem dL_days_154 : decode cL_days 154 = .ok (.invokevirtual 47, 3) := by decide +kernel
theorem dL_days_157 : decode cL_days 157 = .ok (.sipush 365, 3) := by decide +kernel
theorem dL_days_160 : decode cL_days 160 = .ok (.if_icmp .ne 237, 3) := by decide +kernel
theorem dL_days_163 : decode cL_days 163 = .ok (.aload_n 0, 1) := by decide +kernel
theorem dL_days_164 : decode cL_days 164 = .ok (.iconst 0, 1) := by decide +kernel
theorem dL_days_165 : decode cL_days 165 = .ok (.bipush 100, 2) := by decide +kernel
theorem dL_days_167 : decode cL_days 167 = .ok (.iconst 0, 1) := by decide +kernel
theorem dL_days_168 : decode cL_days 168 = .ok (.invokevirtual 47, 3) := by decide +kernel
theorem dL_days_171 : decode cL_days 171 = .ok (.sipush 375, 3) := by decide +kernel
theorem dL_days_174 : decode cL_days 174 = .ok (.if_icmp .ne 223, 3) := by decide +kernel
theorem dL_days_177 : decode cL_days 177 = .ok (.aload_n 0, 1) := by decide +kernel
theorem dL_days_178 : decode cL_days 178 = .ok (.iconst 0, 1) := by decide +kernel
theorem dL_days_179 : decode cL_days 179 = .ok (.iconst 2, 1) := by decide +kernel
theorem dL_days_180 : decode cL_days 180 = .ok (.sipush 200, 3) := by decide +kernel
theorem dL_days_183 : decode cL_days 183 = .ok (.invokevirtual 13, 3) := by decide +kernel
theorem dL_days_186 : decode cL_days 186 = .ok (.iconst 1, 1) := by decide +kernel
theorem dL_days_187 : decode cL_days 187 = .ok (.if_icmp .ne 210, 3) := by decide +kernel
theorem dL_days_190 : decode cL_days 190 = .ok (.aload_n 0, 1) := by decide +kernel
theorem dL_days_191 : decode cL_days 191 = .ok (.iconst 0, 1) := by decide +kernel
theorem dL_days_192 : decode cL_days 192 = .ok (.sipush 376, 3) := by decide +kernel
theorem dL_days_195 : decode cL_days 195 = .ok (.invokestatic 95, 3) := by decide +kernel
theorem dL_days_198 : decode cL_days 198 = .ok (.ifCond .eq 199, 3) := by decide +kernel
theorem dL_days_201 : decode cL_days 201 = .ok (.aload_n 0, 1) := by decide +kernel
theorem dL_days_202 : decode cL_days 202 = .ok (.iconst 0, 1) := by decide +kernel
theorem dL_days_203 : decode cL_days 203 = .ok (.iconst 0, 1) := by decide +kernel
theorem dL_days_204 : decode cL_days 204 = .ok (.invokevirtual 50, 3) := by decide +kernel
theorem dL_days_207 : decode cL_days 207 = .ok (.iconst 3, 1) := by decide +kernel
theorem dL_days_208 : decode cL_days 208 = .ok (.if_icmp .ne 189, 3) := by decide +kernel
theorem dL_days_211 : decode cL_days 211 = .ok (.aload_n 0, 1) := by decide +kernel
theorem dL_days_212 : decode cL_days 212 = .ok (.iconst 1, 1) := by decide +kernel
theorem dL_days_213 : decode cL_days 213 = .ok (.iconst 0, 1) := by decide +kernel
theorem dL_days_214 : decode cL_days 214 = .ok (.bipush 100, 2) := by decide +kernel
theorem dL_days_216 : decode cL_days 216 = .ok (.bipush 102, 2) := by decide +kernel
theorem dL_days_218 : decode cL_days 218 = .ok (.invokestatic 98, 3) := by decide +kernel
theorem dL_days_221 : decode cL_days 221 = .ok (.ifCond .eq 176, 3) := by decide +kernel
theorem dL_days_224 : decode cL_days 224 = .ok (.aload_n 0, 1) := by decide +kernel
theorem dL_days_225 : decode cL_days 225 = .ok (.iconst 2, 1) := by decide +kernel
theorem dL_days_226 : decode cL_days 226 = .ok (.iconst 0, 1) := by decide +kernel
theorem dL_days_227 : decode cL_days 227 = .ok (.sipush 200, 3) := by decide +kernel
theorem dL_days_230 : decode cL_days 230 = .ok (.sipush 174, 3) := by decide +kernel
theorem dL_days_233 : decode cL_days 233 = .ok (.invokestatic 98, 3) := by decide +kernel
theorem dL_days_236 : decode cL_days 236 = .ok (.ifCond .eq 161, 3) := by decide +kernel
theorem dL_days_239 : decode cL_days 239 = .ok (.aload_n 0, 1) := by decide +kernel
theorem dL_days_240 : decode cL_days 240 = .ok (.bipush 10, 2) := by decide +kernel
theorem dL_days_242 : decode cL_days 242 = .ok (.invokevirtual 17, 3) := by decide +kernel
theorem dL_days_245 : decode cL_days 245 = .ok (.bipush 10, 2) := by decide +kernel
theorem dL_days_247 : decode cL_days 247 = .ok (.if_icmp .ne 150, 3) := by decide +kernel
theorem dL_days_250 : decode cL_days 250 = .ok (.aload_n 0, 1) := by decide +kernel
theorem dL_days_251 : decode cL_days 251 = .ok (.iconst 0, 1) := by decide +kernel
theorem dL_days_252 : decode cL_days 252 = .ok (.iconst 0, 1) := by decide +kernel
theorem dL_days_253 : decode cL_days 253 = .ok (.bipush 50, 2) := by decide +kernel
theorem dL_days_255 : decode cL_days 255 = .ok (.bipush (-5), 2) := by decide +kernel
theorem dL_days_257 : decode cL_days 257 = .ok (.invokevirtual 24, 3) := by decide +kernel
theorem dL_days_260 : decode cL_days 260 = .ok (.iconst 1, 1) := by decide +kernel
theorem dL_days_261 : decode cL_days 261 = .ok (.if_icmp .ne 136, 3) := by decide +kernel
theorem dL_days_264 : decode cL_days 264 = .ok (.aload_n 0, 1) := by decide +kernel
theorem dL_days_265 : decode cL_days 265 = .ok (.iconst 0, 1) := by decide +kernel
theorem dL_days_266 : decode cL_days 266 = .ok (.iconst 0, 1) := by decide +kernel
theorem dL_days_267 : decode cL_days 267 = .ok (.sipush 150, 3) := by decide +kernel
theorem dL_days_270 : decode cL_days 270 = .ok (.bipush 15, 2) := by decide +kernel
theorem dL_days_272 : decode cL_days 272 = .ok (.invokevirtual 24, 3) := by decide +kernel
theorem dL_days_275 : decode cL_days 275 = .ok (.iconst 2, 1) := by decide +kernel
theorem dL_days_276 : decode cL_days 276 = .ok (.if_icmp .ne 121, 3) := by decide +kernel
theorem dL_days_279 : decode cL_days 279 = .ok (.aload_n 0, 1) := by decide +kernel
theorem dL_days_280 : decode cL_days 280 = .ok (.bipush 10, 2) := by decide +kernel
theorem dL_days_282 : decode cL_days 282 = .ok (.sipush 387, 3) := by decide +kernel
theorem dL_days_285 : decode cL_days 285 = .ok (.invokestatic 95, 3) := by decide +kernel
theorem dL_days_288 : decode cL_days 288 = .ok (.ifCond .eq 109, 3) := by decide +kernel
theorem dL_days_291 : decode cL_days 291 = .ok (.aload_n 0, 1) := by decide +kernel
theorem dL_days_292 : decode cL_days 292 = .ok (.bipush 9, 2) := by decide +kernel
theorem dL_days_294 : decode cL_days 294 = .ok (.sipush 376, 3) := by decide +kernel
theorem dL_days_297 : decode cL_days 297 = .ok (.invokestatic 95, 3) := by decide +kernel
theorem dL_days_300 : decode cL_days 300 = .ok (.ifCond .eq 97, 3) := by decide +kernel
theorem dL_days_303 : decode cL_days 303 = .ok (.aload_n 0, 1) := by decide +kernel
theorem dL_days_304 : decode cL_days 304 = .ok (.iconst 0, 1) := by decide +kernel
theorem dL_days_305 : decode cL_days 305 = .ok (.iconst 0, 1) := by decide +kernel
theorem dL_days_306 : decode cL_days 306 = .ok (.sipush 160, 3) := by decide +kernel
theorem dL_days_309 : decode cL_days 309 = .ok (.bipush 10, 2) := by decide +kernel
theorem dL_days_311 : decode cL_days 311 = .ok (.invokevirtual 40, 3) := by decide +kernel
theorem dL_days_314 : decode cL_days 314 = .ok (.bipush 20, 2) := by decide +kernel
theorem dL_days_316 : decode cL_days 316 = .ok (.if_icmp .ne 81, 3) := by decide +kernel
theorem dL_days_319 : decode cL_days 319 = .ok (.aload_n 0, 1) := by decide +kernel
theorem dL_days_320 : decode cL_days 320 = .ok (.iconst 0, 1) := by decide +kernel
theorem dL_days_321 : decode cL_days 321 = .ok (.iconst 0, 1) := by decide +kernel
theorem dL_days_322 : decode cL_days 322 = .ok (.sipush 160, 3) := by decide +kernel
theorem dL_days_325 : decode cL_days 325 = .ok (.bipush 9, 2) := by decide +kernel
theorem dL_days_327 : decode cL_days 327 = .ok (.invokevirtual 40, 3) := by decide +kernel
theorem dL_days_330 : decode cL_days 330 = .ok (.bipush 10, 2) := by decide +kernel
theorem dL_days_332 : decode cL_days 332 = .ok (.if_icmp .ne 65, 3) := by decide +kernel
theorem dL_days_335 : decode cL_days 335 = .ok (.aload_n 0, 1) := by decide +kernel
theorem dL_days_336 : decode cL_days 336 = .ok (.iconst 0, 1) := by decide +kernel
theorem dL_days_337 : decode cL_days 337 = .ok (.iconst 0, 1) := by decide +kernel
theorem dL_days_338 : decode cL_days 338 = .ok (.bipush 60, 2) := by decide +kernel
theorem dL_days_340 : decode cL_days 340 = .ok (.bipush 10, 2) := by decide +kernel
theorem dL_days_342 : decode cL_days 342 = .ok (.invokevirtual 40, 3) := by decide +kernel
theorem dL_days_345 : decode cL_days 345 = .ok (.ifCond .ne 52, 3) := by decide +kernel
theorem dL_days_348 : decode cL_days 348 = .ok (.aload_n 0, 1) := by decide +kernel
theorem dL_days_349 : decode cL_days 349 = .ok (.iconst 0, 1) := by decide +kernel
theorem dL_days_350 : decode cL_days 350 = .ok (.sipush 364, 3) := by decide +kernel
theorem dL_days_353 : decode cL_days 353 = .ok (.bipush 10, 2) := by decide +kernel
theorem dL_days_355 : decode cL_days 355 = .ok (.invokevirtual 47, 3) := by decide +kernel
theorem dL_days_358 : decode cL_days 358 = .ok (.sipush 405, 3) := by decide +kernel
theorem dL_days_361 : decode cL_days 361 = .ok (.if_icmp .ne 36, 3) := by decide +kernel
theorem dL_days_364 : decode cL_days 364 = .ok (.aload_n 0, 1) := by decide +kernel
theorem dL_days_365 : decode cL_days 365 = .ok (.iconst 0, 1) := by decide +kernel
theorem dL_days_366 : decode cL_days 366 = .ok (.invokevirtual 37, 3) := by decide +kernel
theorem dL_days_369 : decode cL_days 369 = .ok (.ifCond .ne 28, 3) := by decide +kernel
theorem dL_days_372 : decode cL_days 372 = .ok (.aload_n 0, 1) := by decide +kernel
theorem dL_days_373 : decode cL_days 373 = .ok (.iconst 1, 1) := by decide +kernel
theorem dL_days_374 : decode cL_days 374 = .ok (.invokevirtual 37, 3) := by decide +kernel
theorem dL_days_377 : decode cL_days 377 = .ok (.iconst 1, 1) := by decide +kernel
theorem dL_days_378 : decode cL_days 378 = .ok (.if_icmp .ne 19, 3) := by decide +kernel
theorem dL_days_381 : decode cL_days 381 = .ok (.aload_n 0, 1) := by decide +kernel
theorem dL_days_382 : decode cL_days 382 = .ok (.iconst 2, 1) := by decide +kernel
theorem dL_days_383 : decode cL_days 383 = .ok (.invokevirtual 37, 3) := by decide +kernel
theorem dL_days_386 : decode cL_days 386 = .ok (.ifCond .ne 11, 3) := by decide +kernel
theorem dL_days_389 : decode cL_days 389 = .ok (.aload_n 0, 1) := by decide +kernel
theorem dL_days_390 : decode cL_days 390 = .ok (.iconst 1, 1) := by decide +kernel
theorem dL_days_391 : decode cL_days 391 = .ok (.invokestatic 102, 3) := by decide +kernel
theorem dL_days_394 : decode cL_days 394 = .ok (.ifCond .ne 5, 3) := by decide +kernel
theorem dL_days_397 : decode cL_days 397 = .ok (.iconst 0, 1) := by decide +kernel
theorem dL_days_398 : decode cL_days 398 = .ok (.ireturn, 1) := by decide +kernel
theorem dL_days_399 : decode cL_days 399 = .ok (.aload_n 0, 1) := by decide +kernel
theorem dL_days_400 : decode cL_days 400 = .ok (.iconst 5, 1) := by decide +kernel
theorem dL_days_401 : decode cL_days 401 = .ok (.invokevirtual 17, 3) := by decide +kernel
theorem dL_days_404 : decode cL_days 404 = .ok (.bipush 15, 2) := by decide +kernel
theorem dL_days_406 : decode cL_days 406 = .ok (.if_icmp .ne 324, 3) := by decide +kernel
theorem dL_days_409 : decode cL_days 409 = .ok (.aload_n 0, 1) := by decide +kernel
theorem dL_days_410 : decode cL_days 410 = .ok (.iconst 0, 1) := by decide +kernel
theorem dL_days_411 : decode cL_days 411 = .ok (.invokevirtual 34, 3) := by decide +kernel
theorem dL_days_414 : decode cL_days 414 = .ok (.ifCond .ne 316, 3) := by decide +kernel
theorem dL_days_417 : decode cL_days 417 = .ok (.aload_n 0, 1) := by decide +kernel
theorem dL_days_418 : decode cL_days 418 = .ok (.bipush 7, 2) := by decide +kernel
theorem dL_days_420 : decode cL_days 420 = .ok (.iconst 0, 1) := by decide +kernel
theorem dL_days_421 : decode cL_days 421 = .ok (.iconst 0, 1) := by decide +kernel
theorem dL_days_422 : decode cL_days 422 = .ok (.iconst 0, 1) := by decide +kernel
theorem dL_days_423 : decode cL_days 423 = .ok (.iconst 0, 1) := by decide +kernel
theorem dL_days_424 : decode cL_days 424 = .ok (.invokestatic 88, 3) := by decide +kernel
theorem dL_days_427 : decode cL_days 427 = .ok (.ldc 79, 2) := by decide +kernel
theorem dL_days_429 : decode cL_days 429 = .ok (.if_icmp .ne 301, 3) := by decide +kernel
theorem dL_days_432 : decode cL_days 432 = .ok (.aload_n 0, 1) := by decide +kernel
theorem dL_days_433 : decode cL_days 433 = .ok (.bipush 15, 2) := by decide +kernel
theorem dL_days_435 : decode cL_days 435 = .ok (.sipush 380, 3) := by decide +kernel
theorem dL_days_438 : decode cL_days 438 = .ok (.invokestatic 95, 3) := by decide +kernel
theorem dL_days_441 : decode cL_days 441 = .ok (.ifCond .eq 289, 3) := by decide +kernel
theorem dL_days_444 : decode cL_days 444 = .ok (.aload_n 0, 1) := by decide +kernel
theorem dL_days_445 : decode cL_days 445 = .ok (.bipush 14, 2) := by decide +kernel
theorem dL_days_447 : decode cL_days 447 = .ok (.sipush 387, 3) := by decide +kernel
theorem dL_days_450 : decode cL_days 450 = .ok (.invokestatic 95, 3) := by decide +kernel
theorem dL_days_453 : decode cL_days 453 = .ok (.ifCond .eq 277, 3) := by decide +kernel
theorem dL_days_456 : decode cL_days 456 = .ok (.aload_n 0, 1) := by decide +kernel
theorem dL_days_457 : decode cL_days 457 = .ok (.iconst 0, 1) := by decide +kernel
theorem dL_days_458 : decode cL_days 458 = .ok (.sipush 376, 3) := by decide +kernel
theorem dL_days_461 : decode cL_days 461 = .ok (.invokestatic 95, 3) := by decide +kernel
theorem dL_days_464 : decode cL_days 464 = .ok (.ifCond .eq 266, 3) := by decide +kernel
theorem dL_days_467 : decode cL_days 467 = .ok (.aload_n 0, 1) := by decide +kernel
theorem dL_days_468 : decode cL_days 468 = .ok (.iconst 1, 1) := by decide +kernel
theorem dL_days_469 : decode cL_days 469 = .ok (.invokevirtual 37, 3) := by decide +kernel
theorem dL_days_472 : decode cL_days 472 = .ok (.ifCond .ne 258, 3) := by decide +kernel
theorem dL_days_475 : decode cL_days 475 = .ok (.aload_n 0, 1) := by decide +kernel
theorem dL_days_476 : decode cL_days 476 = .ok (.iconst 0, 1) := by decide +kernel
theorem dL_days_477 : decode cL_days 477 = .ok (.iconst 0, 1) := by decide +kernel
theorem dL_days_478 : decode cL_days 478 = .ok (.sipush 160, 3) := by decide +kernel
theorem dL_days_481 : decode cL_days 481 = .ok (.bipush 15, 2) := by decide +kernel
theorem dL_days_483 : decode cL_days 483 = .ok (.invokevirtual 40, 3) := by decide +kernel
theorem dL_days_486 : decode cL_days 486 = .ok (.bipush 15, 2) := by decide +kernel
theorem dL_days_488 : decode cL_days 488 = .ok (.if_icmp .ne 242, 3) := by decide +kernel
theorem dL_days_491 : decode cL_days 491 = .ok (.aload_n 0, 1) := by decide +kernel
theorem dL_days_492 : decode cL_days 492 = .ok (.iconst 0, 1) := by decide +kernel
theorem dL_days_493 : decode cL_days 493 = .ok (.invokevirtual 68, 3) := by decide +kernel
theorem dL_days_496 : decode cL_days 496 = .ok (.ifCond .ne 234, 3) := by decide +kernel
theorem dL_days_499 : decode cL_days 499 = .ok (.aload_n 0, 1) := by decide +kernel
theorem dL_days_500 : decode cL_days 500 = .ok (.iconst 0, 1) := by decide +kernel
theorem dL_days_501 : decode cL_days 501 = .ok (.invokevirtual 65, 3) := by decide +kernel
theorem dL_days_504 : decode cL_days 504 = .ok (.sipush 380, 3) := by decide +kernel
theorem dL_days_507 : decode cL_days 507 = .ok (.if_icmp .ne 223, 3) := by decide +kernel
theorem dL_days_510 : decode cL_days 510 = .ok (.aload_n 0, 1) := by decide +kernel
theorem dL_days_511 : decode cL_days 511 = .ok (.iconst 0, 1) := by decide +kernel
theorem dL_days_512 : decode cL_days 512 = .ok (.invokevirtual 65, 3) := by decide +kernel
theorem dL_days_515 : decode cL_days 515 = .ok (.ifCond .ne 215, 3) := by decide +kernel
theorem dL_days_518 : decode cL_days 518 = .ok (.aload_n 0, 1) := by decide +kernel
theorem dL_days_519 : decode cL_days 519 = .ok (.iconst 0, 1) := by decide +kernel
theorem dL_days_520 : decode cL_days 520 = .ok (.sipush 300, 3) := by decide +kernel
theorem dL_days_523 : decode cL_days 523 = .ok (.invokevirtual 27, 3) := by decide +kernel
theorem dL_days_526 : decode cL_days 526 = .ok (.iconst 3, 1) := by decide +kernel
theorem dL_days_527 : decode cL_days 527 = .ok (.if_icmp .ne 203, 3) := by decide +kernel
theorem dL_days_530 : decode cL_days 530 = .ok (.aload_n 0, 1) := by decide +kernel
theorem dL_days_531 : decode cL_days 531 = .ok (.iconst 0, 1) := by decide +kernel
theorem dL_days_532 : decode cL_days 532 = .ok (.sipush 300, 3) := by decide +kernel
theorem dL_days_535 : decode cL_days 535 = .ok (.bipush 15, 2) := by decide +kernel
theorem dL_days_537 : decode cL_days 537 = .ok (.invokevirtual 43, 3) := by decide +kernel
theorem dL_days_540 : decode cL_days 540 = .ok (.ifCond .ne 190, 3) := by decide +kernel
theorem dL_days_543 : decode cL_days 543 = .ok (.aload_n 0, 1) := by decide +kernel
theorem dL_days_544 : decode cL_days 544 = .ok (.iconst 0, 1) := by decide +kernel
theorem dL_days_545 : decode cL_days 545 = .ok (.sipush 299, 3) := by decide +kernel
theorem dL_days_548 : decode cL_days 548 = .ok (.bipush 15, 2) := by decide +kernel
theorem dL_days_550 : decode cL_days 550 = .ok (.invokevirtual 43, 3) := by decide +kernel
theorem dL_days_553 : decode cL_days 553 = .ok (.ifCond .eq 177, 3) := by decide +kernel
theorem dL_days_556 : decode cL_days 556 = .ok (.aload_n 0, 1) := by decide +kernel
theorem dL_days_557 : decode cL_days 557 = .ok (.iconst 0, 1) := by decide +kernel
theorem dL_days_558 : decode cL_days 558 = .ok (.sipush 300, 3) := by decide +kernel
theorem dL_days_561 : decode cL_days 561 = .ok (.bipush 14, 2) := by decide +kernel
theorem dL_days_563 : decode cL_days 563 = .ok (.invokevirtual 43, 3) := by decide +kernel
theorem dL_days_566 : decode cL_days 566 = .ok (.ifCond .eq 164, 3) := by decide +kernel
theorem dL_days_569 : decode cL_days 569 = .ok (.aload_n 0, 1) := by decide +kernel
theorem dL_days_570 : decode cL_days 570 = .ok (.iconst 0, 1) := by decide +kernel
theorem dL_days_571 : decode cL_days 571 = .ok (.sipush 300, 3) := by decide +kernel
theorem dL_days_574 : decode cL_days 574 = .ok (.bipush 15, 2) := by decide +kernel
theorem dL_days_576 : decode cL_days 576 = .ok (.invokevirtual 47, 3) := by decide +kernel
theorem dL_days_579 : decode cL_days 579 = .ok (.ifCond .ne 151, 3) := by decide +kernel
theorem dL_days_582 : decode cL_days 582 = .ok (.aload_n 0, 1) := by decide +kernel
theorem dL_days_583 : decode cL_days 583 = .ok (.iconst 0, 1) := by decide +kernel
theorem dL_days_584 : decode cL_days 584 = .ok (.iconst 0, 1) := by decide +kernel
theorem dL_days_585 : decode cL_days 585 = .ok (.sipush 300, 3) := by decide +kernel
theorem dL_days_588 : decode cL_days 588 = .ok (.bipush 15, 2) := by decide +kernel
theorem dL_days_590 : decode cL_days 590 = .ok (.invokevirtual 40, 3) := by decide +kernel
theorem dL_days_593 : decode cL_days 593 = .ok (.bipush 15, 2) := by decide +kernel
theorem dL_days_595 : decode cL_days 595 = .ok (.if_icmp .ne 135, 3) := by decide +kernel
theorem dL_days_598 : decode cL_days 598 = .ok (.aload_n 0, 1) := by decide +kernel
theorem dL_days_599 : decode cL_days 599 = .ok (.iconst 0, 1) := by decide +kernel
theorem dL_days_600 : decode cL_days 600 = .ok (.bipush 15, 2) := by decide +kernel
theorem dL_days_602 : decode cL_days 602 = .ok (.invokevirtual 50, 3) := by decide +kernel
theorem dL_days_605 : decode cL_days 605 = .ok (.iconst 3, 1) := by decide +kernel
theorem dL_days_606 : decode cL_days 606 = .ok (.if_icmp .ne 124, 3) := by decide +kernel
theorem dL_days_609 : decode cL_days 609 = .ok (.aload_n 0, 1) := by decide +kernel
theorem dL_days_610 : decode cL_days 610 = .ok (.iconst 0, 1) := by decide +kernel
theorem dL_days_611 : decode cL_days 611 = .ok (.invokevirtual 65, 3) := by decide +kernel
theorem dL_days_614 : decode cL_days 614 = .ok (.bipush (-70), 2) := by decide +kernel
theorem dL_days_616 : decode cL_days 616 = .ok (.if_icmp .ne 114, 3) := by decide +kernel
theorem dL_days_619 : decode cL_days 619 = .ok (.aload_n 0, 1) := by decide +kernel
theorem dL_days_620 : decode cL_days 620 = .ok (.iconst 0, 1) := by decide +kernel
theorem dL_days_621 : decode cL_days 621 = .ok (.invokevirtual 68, 3) := by decide +kernel
theorem dL_days_624 : decode cL_days 624 = .ok (.sipush 310, 3) := by decide +kernel
theorem dL_days_627 : decode cL_days 627 = .ok (.if_icmp .ne 103, 3) := by decide +kernel
theorem dL_days_630 : decode cL_days 630 = .ok (.aload_n 0, 1) := by decide +kernel
theorem dL_days_631 : decode cL_days 631 = .ok (.iconst 0, 1) := by decide +kernel
theorem dL_days_632 : decode cL_days 632 = .ok (.sipush 330, 3) := by decide +kernel
theorem dL_days_635 : decode cL_days 635 = .ok (.invokevirtual 31, 3) := by decide +kernel
theorem dL_days_638 : decode cL_days 638 = .ok (.iconst 4, 1) := by decide +kernel
theorem dL_days_639 : decode cL_days 639 = .ok (.if_icmp .ne 91, 3) := by decide +kernel
theorem dL_days_642 : decode cL_days 642 = .ok (.aload_n 0, 1) := by decide +kernel
theorem dL_days_643 : decode cL_days 643 = .ok (.iconst 0, 1) := by decide +kernel
theorem dL_days_644 : decode cL_days 644 = .ok (.bipush 15, 2) := by decide +kernel
theorem dL_days_646 : decode cL_days 646 = .ok (.invokevirtual 50, 3) := by decide +kernel
theorem dL_days_649 : decode cL_days 649 = .ok (.iconst 4, 1) := by decide +kernel
theorem dL_days_650 : decode cL_days 650 = .ok (.if_icmp .ne 80, 3) := by decide +kernel
theorem dL_days_653 : decode cL_days 653 = .ok (.aload_n 0, 1) := by decide +kernel
theorem dL_days_654 : decode cL_days 654 = .ok (.iconst 0, 1) := by decide +kernel
theorem dL_days_655 : decode cL_days 655 = .ok (.bipush 15, 2) := by decide +kernel
theorem dL_days_657 : decode cL_days 657 = .ok (.iconst 0, 1) := by decide +kernel
theorem dL_days_658 : decode cL_days 658 = .ok (.sipush 150, 3) := by decide +kernel
theorem dL_days_661 : decode cL_days 661 = .ok (.invokestatic 98, 3) := by decide +kernel
theorem dL_days_664 : decode cL_days 664 = .ok (.ifCond .eq 66, 3) := by decide +kernel
theorem dL_days_667 : decode cL_days 667 = .ok (.aload_n 0, 1) := by decide +kernel
theorem dL_days_668 : decode cL_days 668 = .ok (.iconst 1, 1) := by decide +kernel
theorem dL_days_669 : decode cL_days 669 = .ok (.bipush 15, 2) := by decide +kernel
theorem dL_days_671 : decode cL_days 671 = .ok (.sipush 150, 3) := by decide +kernel
theorem dL_days_674 : decode cL_days 674 = .ok (.bipush 52, 2) := by decide +kernel
theorem dL_days_676 : decode cL_days 676 = .ok (.invokestatic 98, 3) := by decide +kernel
theorem dL_days_679 : decode cL_days 679 = .ok (.ifCond .eq 51, 3) := by decide +kernel
theorem dL_days_682 : decode cL_days 682 = .ok (.aload_n 0, 1) := by decide +kernel
theorem dL_days_683 : decode cL_days 683 = .ok (.iconst 2, 1) := by decide +kernel
theorem dL_days_684 : decode cL_days 684 = .ok (.bipush 15, 2) := by decide +kernel
theorem dL_days_686 : decode cL_days 686 = .ok (.sipush 200, 3) := by decide +kernel
theorem dL_days_689 : decode cL_days 689 = .ok (.bipush 108, 2) := by decide +kernel
theorem dL_days_691 : decode cL_days 691 = .ok (.invokestatic 98, 3) := by decide +kernel
theorem dL_days_694 : decode cL_days 694 = .ok (.ifCond .eq 36, 3) := by decide +kernel
theorem dL_days_697 : decode cL_days 697 = .ok (.aload_n 0, 1) := by decide +kernel
theorem dL_days_698 : decode cL_days 698 = .ok (.iconst 3, 1) := by decide +kernel
theorem dL_days_699 : decode cL_days 699 = .ok (.bipush 15, 2) := by decide +kernel
theorem dL_days_701 : decode cL_days 701 = .ok (.sipush 330, 3) := by decide +kernel
theorem dL_days_704 : decode cL_days 704 = .ok (.bipush 38, 2) := by decide +kernel
theorem dL_days_706 : decode cL_days 706 = .ok (.invokestatic 98, 3) := by decide +kernel
theorem dL_days_709 : decode cL_days 709 = .ok (.ifCond .eq 21, 3) := by decide +kernel
theorem dL_days_712 : decode cL_days 712 = .ok (.aload_n 0, 1) := by decide +kernel
theorem dL_days_713 : decode cL_days 713 = .ok (.iconst 0, 1) := by decide +kernel
theorem dL_days_714 : decode cL_days 714 = .ok (.invokevirtual 65, 3) := by decide +kernel
theorem dL_days_717 : decode cL_days 717 = .ok (.bipush 38, 2) := by decide +kernel
theorem dL_days_719 : decode cL_days 719 = .ok (.if_icmp .ne 11, 3) := by decide +kernel
theorem dL_days_722 : decode cL_days 722 = .ok (.aload_n 0, 1) := by decide +kernel
theorem dL_days_723 : decode cL_days 723 = .ok (.iconst 1, 1) := by decide +kernel
theorem dL_days_724 : decode cL_days 724 = .ok (.invokestatic 102, 3) := by decide +kernel
theorem dL_days_727 : decode cL_days 727 = .ok (.ifCond .ne 5, 3) := by decide +kernel
theorem dL_days_730 : decode cL_days 730 = .ok (.iconst 0, 1) := by decide +kernel
theorem dL_days_731 : decode cL_days 731 = .ok (.ireturn, 1) := by decide +kernel
theorem dL_days_732 : decode cL_days 732 = .ok (.aload_n 0, 1) := by decide +kernel
theorem dL_days_733 : decode cL_days 733 = .ok (.iconst 0, 1) := by decide +kernel
theorem dL_days_734 : decode cL_days 734 = .ok (.sipush 330, 3) := by decide +kernel
theorem dL_days_737 : decode cL_days 737 = .ok (.invokevirtual 27, 3) := by decide +kernel
theorem dL_days_740 : decode cL_days 740 = .ok (.iconst 5, 1) := by decide +kernel
theorem dL_days_741 : decode cL_days 741 = .ok (.if_icmp .ne 169, 3) := by decide +kernel
theorem dL_days_744 : decode cL_days 744 = .ok (.aload_n 0, 1) := by decide +kernel
theorem dL_days_745 : decode cL_days 745 = .ok (.iconst 0, 1) := by decide +kernel
theorem dL_days_746 : decode cL_days 746 = .ok (.bipush 15, 2) := by decide +kernel
theorem dL_days_748 : decode cL_days 748 = .ok (.invokevirtual 50, 3) := by decide +kernel
theorem dL_days_751 : decode cL_days 751 = .ok (.iconst 3, 1) := by decide +kernel
theorem dL_days_752 : decode cL_days 752 = .ok (.if_icmp .ne 158, 3) := by decide +kernel
theorem dL_days_755 : decode cL_days 755 = .ok (.aload_n 0, 1) := by decide +kernel
theorem dL_days_756 : decode cL_days 756 = .ok (.iconst 0, 1) := by decide +kernel
theorem dL_days_757 : decode cL_days 757 = .ok (.sipush 364, 3) := by decide +kernel
theorem dL_days_760 : decode cL_days 760 = .ok (.bipush 15, 2) := by decide +kernel
theorem dL_days_762 : decode cL_days 762 = .ok (.invokevirtual 43, 3) := by decide +kernel
theorem dL_days_765 : decode cL_days 765 = .ok (.ifCond .ne 145, 3) := by decide +kernel
theorem dL_days_768 : decode cL_days 768 = .ok (.aload_n 0, 1) := by decide +kernel
theorem dL_days_769 : decode cL_days 769 = .ok (.iconst 5, 1) := by decide +kernel
theorem dL_days_770 : decode cL_days 770 = .ok (.invokevirtual 34, 3) := by decide +kernel
theorem dL_days_773 : decode cL_days 773 = .ok (.bipush 15, 2) := by decide +kernel
theorem dL_days_775 : decode cL_days 775 = .ok (.if_icmp .ne 135, 3) := by decide +kernel
theorem dL_days_778 : decode cL_days 778 = .ok (.aload_n 0, 1) := by decide +kernel
theorem dL_days_779 : decode cL_days 779 = .ok (.iconst 0, 1) := by decide +kernel
theorem dL_days_780 : decode cL_days 780 = .ok (.bipush 15, 2) := by decide +kernel
theorem dL_days_782 : decode cL_days 782 = .ok (.invokevirtual 50, 3) := by decide +kernel
theorem dL_days_785 : decode cL_days 785 = .ok (.iconst 4, 1) := by decide +kernel
theorem dL_days_786 : decode cL_days 786 = .ok (.if_icmp .ne 124, 3) := by decide +kernel
theorem dL_days_789 : decode cL_days 789 = .ok (.aload_n 0, 1) := by decide +kernel
theorem dL_days_790 : decode cL_days 790 = .ok (.iconst 0, 1) := by decide +kernel
theorem dL_days_791 : decode cL_days 791 = .ok (.iconst 1, 1) := by decide +kernel
theorem dL_days_792 : decode cL_days 792 = .ok (.iconst 0, 1) := by decide +kernel
theorem dL_days_793 : decode cL_days 793 = .ok (.bipush 20, 2) := by decide +kernel
theorem dL_days_795 : decode cL_days 795 = .ok (.invokevirtual 20, 3) := by decide +kernel
theorem dL_days_798 : decode cL_days 798 = .ok (.bipush 6, 2) := by decide +kernel
theorem dL_days_800 : decode cL_days 800 = .ok (.if_icmp .ne 110, 3) := by decide +kernel
theorem dL_days_803 : decode cL_days 803 = .ok (.aload_n 0, 1) := by decide +kernel
theorem dL_days_804 : decode cL_days 804 = .ok (.iconst 0, 1) := by decide +kernel
theorem dL_days_805 : decode cL_days 805 = .ok (.iconst 0, 1) := by decide +kernel
theorem dL_days_806 : decode cL_days 806 = .ok (.bipush 15, 2) := by decide +kernel
theorem dL_days_808 : decode cL_days 808 = .ok (.invokevirtual 47, 3) := by decide +kernel
theorem dL_days_811 : decode cL_days 811 = .ok (.sipush 385, 3) := by decide +kernel
theorem dL_days_814 : decode cL_days 814 = .ok (.if_icmp .ne 96, 3) := by decide +kernel
theorem dL_days_817 : decode cL_days 817 = .ok (.aload_n 0, 1) := by decide +kernel
theorem dL_days_818 : decode cL_days 818 = .ok (.bipush 6, 2) := by decide +kernel
theorem dL_days_820 : decode cL_days 820 = .ok (.invokevirtual 37, 3) := by decide +kernel
theorem dL_days_823 : decode cL_days 823 = .ok (.iconst 4, 1) := by decide +kernel
theorem dL_days_824 : decode cL_days 824 = .ok (.if_icmp .ne 86, 3) := by decide +kernel
theorem dL_days_827 : decode cL_days 827 = .ok (.aload_n 0, 1) := by decide +kernel
theorem dL_days_828 : decode cL_days 828 = .ok (.bipush 6, 2) := by decide +kernel
theorem dL_days_830 : decode cL_days 830 = .ok (.invokevirtual 34, 3) := by decide +kernel
theorem dL_days_833 : decode cL_days 833 = .ok (.bipush 15, 2) := by decide +kernel
theorem dL_days_835 : decode cL_days 835 = .ok (.if_icmp .ne 75, 3) := by decide +kernel
theorem dL_days_838 : decode cL_days 838 = .ok (.aload_n 0, 1) := by decide +kernel
theorem dL_days_839 : decode cL_days 839 = .ok (.iconst 0, 1) := by decide +kernel
theorem dL_days_840 : decode cL_days 840 = .ok (.iconst 0, 1) := by decide +kernel
theorem dL_days_841 : decode cL_days 841 = .ok (.bipush 15, 2) := by decide +kernel
theorem dL_days_843 : decode cL_days 843 = .ok (.invokevirtual 47, 3) := by decide +kernel
theorem dL_days_846 : decode cL_days 846 = .ok (.sipush 365, 3) := by decide +kernel
theorem dL_days_849 : decode cL_days 849 = .ok (.if_icmp .ne 61, 3) := by decide +kernel
theorem dL_days_852 : decode cL_days 852 = .ok (.aload_n 0, 1) := by decide +kernel
theorem dL_days_853 : decode cL_days 853 = .ok (.iconst 1, 1) := by decide +kernel
theorem dL_days_854 : decode cL_days 854 = .ok (.invokevirtual 17, 3) := by decide +kernel
theorem dL_days_857 : decode cL_days 857 = .ok (.bipush 16, 2) := by decide +kernel
theorem dL_days_859 : decode cL_days 859 = .ok (.if_icmp .ne 51, 3) := by decide +kernel
theorem dL_days_862 : decode cL_days 862 = .ok (.aload_n 0, 1) := by decide +kernel
theorem dL_days_863 : decode cL_days 863 = .ok (.iconst 0, 1) := by decide +kernel
theorem dL_days_864 : decode cL_days 864 = .ok (.iconst 0, 1) := by decide +kernel
theorem dL_days_865 : decode cL_days 865 = .ok (.bipush 16, 2) := by decide +kernel
theorem dL_days_867 : decode cL_days 867 = .ok (.invokevirtual 47, 3) := by decide +kernel
theorem dL_days_870 : decode cL_days 870 = .ok (.sipush 365, 3) := by decide +kernel
theorem dL_days_873 : decode cL_days 873 = .ok (.if_icmp .ne 37, 3) := by decide +kernel
theorem dL_days_876 : decode cL_days 876 = .ok (.aload_n 0, 1) := by decide +kernel
theorem dL_days_877 : decode cL_days 877 = .ok (.iconst 0, 1) := by decide +kernel
theorem dL_days_878 : decode cL_days 878 = .ok (.iconst 0, 1) := by decide +kernel
theorem dL_days_879 : decode cL_days 879 = .ok (.bipush 15, 2) := by decide +kernel
theorem dL_days_881 : decode cL_days 881 = .ok (.invokevirtual 47, 3) := by decide +kernel
theorem dL_days_884 : decode cL_days 884 = .ok (.sipush 365, 3) := by decide +kernel
theorem dL_days_887 : decode cL_days 887 = .ok (.if_icmp .ne 23, 3) := by decide +kernel
theorem dL_days_890 : decode cL_days 890 = .ok (.aload_n 0, 1) := by decide +kernel
theorem dL_days_891 : decode cL_days 891 = .ok (.iconst 0, 1) := by decide +kernel
theorem dL_days_892 : decode cL_days 892 = .ok (.invokevirtual 65, 3) := by decide +kernel
theorem dL_days_895 : decode cL_days 895 = .ok (.ifCond .ne 15, 3) := by decide +kernel
theorem dL_days_898 : decode cL_days 898 = .ok (.aload_n 0, 1) := by decide +kernel
theorem dL_days_899 : decode cL_days 899 = .ok (.iconst 1, 1) := by decide +kernel
theorem dL_days_900 : decode cL_days 900 = .ok (.invokestatic 102, 3) := by decide +kernel
theorem dL_days_903 : decode cL_days 903 = .ok (.ifCond .eq 7, 3) := by decide +kernel
theorem dL_days_906 : decode cL_days 906 = .ok (.iconst 1, 1) := by decide +kernel
theorem dL_days_907 : decode cL_days 907 = .ok (.goto 4, 3) := by decide +kernel
theorem dL_days_910 : decode cL_days 910 = .ok (.iconst 0, 1) := by decide +kernel
theorem dL_days_911 : decode cL_days 911 = .ok (.ireturn, 1) := by decide +kernel
