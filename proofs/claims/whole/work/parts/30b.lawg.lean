-- ===== the words of the law's callees =====
set_option maxRecDepth 20000 in
theorem ggL_law_X3_init : GoodIn wsL_law wsX3_init := goodIn_r _ [10, 11, 12, 13, 14, 15, 16, 17, 18, 19, 20, 21, 22, 23, 24, 25, 26, 27, 28, 29, 30, 31, 32, 33, 34, 35, 36, 37, 38, 39, 40, 41, 42, 43, 44, 45, 46, 47, 48, 49, 50, 723, 724, 725, 707, 708, 709, 710, 711, 726, 727, 728, 729, 730, 731, 732, 733, 734, 735, 736] (by decide +kernel) (by decide +kernel)
set_option maxRecDepth 20000 in
theorem gL_law_X3_init : GoodIn wsL_law (wsX3_init) := ggL_law_X3_init
set_option maxRecDepth 20000 in
theorem ggL_law_X4_init : GoodIn wsL_law wsX4_init := goodIn_r _ [53, 54, 12, 13, 24, 55, 56, 57, 58, 59, 712, 713, 714, 715, 716, 717, 718, 719, 720, 721, 722] (by decide +kernel) (by decide +kernel)
set_option maxRecDepth 20000 in
theorem gL_law_X4_init : GoodIn wsL_law (wsX4_init) := ggL_law_X4_init
set_option maxRecDepth 20000 in
theorem ggL_law_L_build : GoodIn wsL_law wsL_build := goodIn_ca (goodIn_ca (goodIn_r _ [63, 64, 65, 66, 67, 68, 2, 69, 70, 71, 72, 73, 17, 74, 75, 76, 18, 77, 78, 79, 80, 81, 82, 83, 84, 85, 86, 87, 88, 16, 89, 90, 91, 92, 93, 94, 95, 96, 97, 98, 99, 100, 101, 102, 103, 104, 105, 106, 30, 107, 108, 109, 110, 12, 13, 111, 112, 113, 114, 24, 115, 116, 117, 118, 119, 120, 121, 122, 123, 124, 125, 126, 127, 128, 129, 130, 131, 132, 133, 134, 29, 135, 136, 137, 138, 139, 140, 141, 142, 143, 144, 145, 146, 147, 148, 149, 150, 151, 152, 153, 154, 155, 156, 157, 158, 159, 160, 161, 162, 163, 164, 165, 166, 167, 168, 169, 170, 171, 172, 173, 174, 175, 176, 177, 178, 179, 180, 181, 707, 708, 709, 710, 711, 737, 738, 739, 740, 741, 742, 743, 744, 723, 724, 725] (by decide +kernel) (by decide +kernel)) (goodIn_sub (fun _ h => List.mem_append_left _ (List.mem_append_left _ (List.mem_append_right _ h))) (by decide +kernel))) (goodIn_sub (fun _ h => List.mem_append_left _ (List.mem_append_right _ h)) (by decide +kernel))
set_option maxRecDepth 20000 in
theorem gL_law_L_build : GoodIn wsL_law (va_wsS RL 81 yL_build wsL_build) := goodIn_app (goodIn_of _ (by decide +kernel)) ggL_law_L_build
set_option maxRecDepth 20000 in
theorem ggL_law_X4_build : GoodIn wsL_law wsX4_build := goodIn_r _ [185, 186, 187, 188, 189, 5, 190, 191, 192, 193, 194, 195, 196, 197, 198, 55, 199, 200, 201, 202, 712, 713, 714, 715, 716, 717, 718, 719, 720, 721, 722] (by decide +kernel) (by decide +kernel)
set_option maxRecDepth 20000 in
theorem gL_law_X4_build : GoodIn wsL_law (wsV RL 86 RX4 yX4_build wsX4_build) := goodIn_app (goodIn_of _ (by decide +kernel)) ggL_law_X4_build
set_option maxRecDepth 20000 in
theorem ggL_law_X4_thrown : GoodIn wsL_law wsX4_thrown := goodIn_r _ [206, 186, 712, 713, 714, 715, 716, 717, 718, 719, 720, 721, 722] (by decide +kernel) (by decide +kernel)
set_option maxRecDepth 20000 in
theorem gL_law_X4_thrown : GoodIn wsL_law (wsV RL 87 RX4 yX4_thrown wsX4_thrown) := goodIn_app (goodIn_of _ (by decide +kernel)) ggL_law_X4_thrown
set_option maxRecDepth 20000 in
theorem ggL_law_L_cloud : GoodIn wsL_law wsL_cloud := goodIn_ca (goodIn_ca (goodIn_ca (goodIn_r _ [209, 210, 64, 65, 211, 212, 213, 2, 214, 215, 216, 70, 71, 72, 73, 17, 84, 217, 218, 219, 220, 221, 86, 87, 88, 16, 89, 90, 77, 78, 79, 91, 92, 93, 94, 95, 96, 97, 98, 99, 100, 101, 102, 103, 104, 105, 106, 30, 222, 223, 224, 76, 225, 226, 227, 228, 229, 230, 115, 116, 707, 708, 709, 710, 711, 737, 738, 739, 740, 741, 742, 743, 744, 723, 724, 725] (by decide +kernel) (by decide +kernel)) (goodIn_sub (fun _ h => List.mem_append_right _ h) (by decide +kernel))) (goodIn_sub (fun _ h => List.mem_append_left _ (List.mem_append_left _ (List.mem_append_right _ h))) (by decide +kernel))) (goodIn_sub (fun _ h => List.mem_append_left _ (List.mem_append_right _ h)) (by decide +kernel))
set_option maxRecDepth 20000 in
theorem gL_law_L_cloud : GoodIn wsL_law (va_wsS RL 91 yL_cloud wsL_cloud) := goodIn_app (goodIn_of _ (by decide +kernel)) ggL_law_L_cloud
set_option maxRecDepth 20000 in
theorem ggL_law_X4_cloud : GoodIn wsL_law wsX4_cloud := goodIn_r _ [234, 186, 235, 236, 237, 5, 238, 187, 188, 189, 190, 191, 192, 193, 194, 195, 196, 197, 198, 55, 199, 200, 201, 202, 712, 713, 714, 715, 716, 717, 718, 719, 720, 721, 722] (by decide +kernel) (by decide +kernel)
set_option maxRecDepth 20000 in
theorem gL_law_X4_cloud : GoodIn wsL_law (wsV RL 93 RX4 yX4_cloud wsX4_cloud) := goodIn_app (goodIn_of _ (by decide +kernel)) ggL_law_X4_cloud
set_option maxRecDepth 20000 in
theorem ggL_law_L_clear : GoodIn wsL_law wsL_clear := goodIn_ca (goodIn_r _ [241, 210, 242, 243, 244, 2, 245, 215, 216, 17, 84, 217, 218, 219, 220, 221, 86, 87, 88, 16, 89, 90, 77, 78, 79, 91, 92, 93, 94, 95, 96, 97, 98, 99, 100, 101, 102, 103, 104, 105, 106, 30, 707, 708, 709, 710, 711, 737, 738, 739, 740, 741, 742, 743, 744, 723, 724, 725] (by decide +kernel) (by decide +kernel)) (goodIn_sub (fun _ h => List.mem_append_right _ h) (by decide +kernel))
set_option maxRecDepth 20000 in
theorem gL_law_L_clear : GoodIn wsL_law (va_wsS RL 94 yL_clear wsL_clear) := goodIn_app (goodIn_of _ (by decide +kernel)) ggL_law_L_clear
set_option maxRecDepth 20000 in
theorem ggL_law_X4_clear : GoodIn wsL_law wsX4_clear := goodIn_r _ [249, 186, 235, 236, 237, 5, 238, 187, 188, 189, 190, 191, 192, 193, 194, 195, 196, 197, 198, 55, 199, 200, 201, 202, 712, 713, 714, 715, 716, 717, 718, 719, 720, 721, 722] (by decide +kernel) (by decide +kernel)
set_option maxRecDepth 20000 in
theorem gL_law_X4_clear : GoodIn wsL_law (wsV RL 97 RX4 yX4_clear wsX4_clear) := goodIn_app (goodIn_of _ (by decide +kernel)) ggL_law_X4_clear
set_option maxRecDepth 20000 in
theorem ggL_law_L_correct : GoodIn wsL_law wsL_correct := goodIn_ca (goodIn_ca (goodIn_r _ [252, 210, 64, 253, 254, 255, 2, 256, 215, 216, 70, 71, 257, 258, 17, 84, 259, 218, 219, 220, 221, 86, 87, 88, 16, 89, 90, 77, 78, 79, 91, 92, 93, 94, 95, 96, 97, 98, 99, 100, 101, 102, 103, 104, 105, 106, 30, 707, 708, 709, 710, 711, 737, 738, 739, 740, 741, 742, 743, 744, 723, 724, 725] (by decide +kernel) (by decide +kernel)) (goodIn_sub (fun _ h => List.mem_append_right _ h) (by decide +kernel))) (goodIn_sub (fun _ h => List.mem_append_left _ (List.mem_append_left _ (List.mem_append_right _ h))) (by decide +kernel))
set_option maxRecDepth 20000 in
theorem gL_law_L_correct : GoodIn wsL_law (va_wsS RL 98 yL_correct wsL_correct) := goodIn_app (goodIn_of _ (by decide +kernel)) ggL_law_L_correct
set_option maxRecDepth 20000 in
theorem ggL_law_X4_correct : GoodIn wsL_law wsX4_correct := goodIn_r _ [263, 186, 264, 265, 235, 236, 237, 5, 238, 187, 188, 189, 190, 191, 192, 193, 194, 195, 196, 197, 198, 55, 199, 200, 201, 202, 712, 713, 714, 715, 716, 717, 718, 719, 720, 721, 722] (by decide +kernel) (by decide +kernel)
set_option maxRecDepth 20000 in
theorem gL_law_X4_correct : GoodIn wsL_law (wsV RL 101 RX4 yX4_correct wsX4_correct) := goodIn_app (goodIn_of _ (by decide +kernel)) ggL_law_X4_correct
set_option maxRecDepth 20000 in
theorem ggL_law_L_station : GoodIn wsL_law wsL_station := goodIn_ca (goodIn_r _ [268, 210, 269, 270, 271, 2, 272, 215, 216, 17, 84, 218, 219, 220, 221, 86, 87, 88, 16, 89, 90, 77, 78, 79, 91, 92, 93, 94, 95, 96, 97, 98, 99, 100, 101, 102, 103, 104, 105, 106, 30, 273, 274, 275, 276, 85, 277, 278, 259, 217, 279, 280, 281, 282, 19, 283, 284, 285, 286, 76, 287, 112, 288, 289, 290, 291, 292, 293, 294, 295, 296, 297, 298, 137, 299, 300, 301, 302, 303, 304, 305, 306, 307, 226, 115, 116, 707, 708, 709, 710, 711, 723, 724, 725, 737, 738, 739, 740, 741, 742, 743, 744, 745, 746, 747, 748] (by decide +kernel) (by decide +kernel)) (goodIn_sub (fun _ h => List.mem_append_right _ h) (by decide +kernel))
set_option maxRecDepth 20000 in
theorem gL_law_L_station : GoodIn wsL_law (va_wsS RL 102 yL_station wsL_station) := goodIn_app (goodIn_of _ (by decide +kernel)) ggL_law_L_station
set_option maxRecDepth 20000 in
theorem ggL_law_X4_station : GoodIn wsL_law wsX4_station := goodIn_r _ [311, 186, 235, 236, 237, 5, 238, 187, 188, 189, 190, 312, 313, 314, 315, 195, 196, 197, 198, 55, 316, 317, 318, 319, 320, 321, 322, 323, 324, 325, 326, 327, 328, 329, 298, 137, 299, 330, 331, 332, 333, 56, 191, 192, 193, 194, 712, 713, 714, 715, 716, 717, 718, 719, 720, 721, 722] (by decide +kernel) (by decide +kernel)
set_option maxRecDepth 20000 in
theorem gL_law_X4_station : GoodIn wsL_law (wsV RL 104 RX4 yX4_station wsX4_station) := goodIn_app (goodIn_of _ (by decide +kernel)) ggL_law_X4_station
set_option maxRecDepth 20000 in
theorem ggL_law_L_clock : GoodIn wsL_law wsL_clock := goodIn_ca (goodIn_ca (goodIn_r _ [336, 210, 64, 337, 338, 339, 2, 340, 215, 216, 70, 71, 341, 17, 84, 218, 219, 220, 221, 86, 87, 88, 16, 89, 90, 77, 78, 79, 91, 92, 93, 94, 95, 96, 97, 98, 99, 100, 101, 102, 103, 104, 105, 106, 30, 342, 343, 344, 76, 345, 346, 347, 348, 349, 350, 113, 114, 707, 708, 709, 710, 711, 723, 724, 725, 737, 738, 739, 740, 741, 742, 743, 744] (by decide +kernel) (by decide +kernel)) (goodIn_sub (fun _ h => List.mem_append_right _ h) (by decide +kernel))) (goodIn_sub (fun _ h => List.mem_append_left _ (List.mem_append_left _ (List.mem_append_right _ h))) (by decide +kernel))
set_option maxRecDepth 20000 in
theorem gL_law_L_clock : GoodIn wsL_law (va_wsS RL 105 yL_clock wsL_clock) := goodIn_app (goodIn_of _ (by decide +kernel)) ggL_law_L_clock
set_option maxRecDepth 20000 in
theorem ggL_law_X4_clock : GoodIn wsL_law wsX4_clock := goodIn_r _ [354, 186, 235, 236, 237, 5, 238, 187, 188, 189, 190, 191, 192, 193, 194, 355, 356, 357, 358, 359, 360, 361, 362, 195, 196, 197, 198, 55, 712, 713, 714, 715, 716, 717, 718, 719, 720, 721, 722] (by decide +kernel) (by decide +kernel)
set_option maxRecDepth 20000 in
theorem gL_law_X4_clock : GoodIn wsL_law (wsV RL 107 RX4 yX4_clock wsX4_clock) := goodIn_app (goodIn_of _ (by decide +kernel)) ggL_law_X4_clock
set_option maxRecDepth 20000 in
theorem ggL_law_L_addHalo : GoodIn wsL_law wsL_addHalo := goodIn_ca (goodIn_ca (goodIn_r _ [365, 64, 65, 366, 367, 368, 2, 369, 70, 71, 72, 73, 258, 19, 370, 371, 291, 77, 78, 79, 86, 87, 88, 16, 89, 90, 372, 373, 374, 375, 12, 13, 296, 293, 295, 294, 117, 118, 119, 120, 121, 122, 30, 123, 124, 125, 126, 127, 128, 129, 130, 131, 132, 133, 134, 29, 135, 136, 137, 138, 139, 140, 141, 142, 143, 144, 145, 146, 147, 148, 149, 150, 151, 152, 153, 154, 155, 156, 157, 158, 159, 160, 161, 162, 163, 164, 165, 166, 167, 168, 707, 708, 709, 710, 711, 745, 746, 747, 748, 723, 724, 725] (by decide +kernel) (by decide +kernel)) (goodIn_sub (fun _ h => List.mem_append_left _ (List.mem_append_left _ (List.mem_append_right _ h))) (by decide +kernel))) (goodIn_sub (fun _ h => List.mem_append_left _ (List.mem_append_right _ h)) (by decide +kernel))
set_option maxRecDepth 20000 in
theorem gL_law_L_addHalo : GoodIn wsL_law (va_wsS RL 108 yL_addHalo wsL_addHalo) := goodIn_app (goodIn_of _ (by decide +kernel)) ggL_law_L_addHalo
set_option maxRecDepth 20000 in
theorem ggL_law_X4_addHalo : GoodIn wsL_law wsX4_addHalo := goodIn_r _ [379, 186, 265, 320, 24, 56, 380, 166, 167, 168, 188, 189, 5, 190, 191, 192, 193, 194, 712, 713, 714, 715, 716, 717, 718, 719, 720, 721, 722] (by decide +kernel) (by decide +kernel)
set_option maxRecDepth 20000 in
theorem gL_law_X4_addHalo : GoodIn wsL_law (wsV RL 111 RX4 yX4_addHalo wsX4_addHalo) := goodIn_app (goodIn_of _ (by decide +kernel)) ggL_law_X4_addHalo
set_option maxRecDepth 20000 in
theorem ggL_law_L_comes : GoodIn wsL_law wsL_comes := goodIn_ca (goodIn_r _ [383, 210, 384, 385, 386, 2, 387, 215, 216, 19, 283, 17, 84, 85, 388, 389, 390, 391, 86, 87, 88, 16, 89, 90, 77, 78, 79, 218, 219, 220, 221, 91, 92, 93, 94, 95, 96, 97, 98, 99, 100, 101, 102, 103, 104, 105, 106, 30, 392, 289, 290, 291, 292, 293, 294, 295, 296, 297, 298, 137, 299, 707, 708, 709, 710, 711, 737, 738, 739, 740, 741, 742, 743, 744, 723, 724, 725, 745, 746, 747, 748] (by decide +kernel) (by decide +kernel)) (goodIn_sub (fun _ h => List.mem_append_right _ h) (by decide +kernel))
set_option maxRecDepth 20000 in
theorem gL_law_L_comes : GoodIn wsL_law (va_wsS RL 112 yL_comes wsL_comes) := goodIn_app (goodIn_of _ (by decide +kernel)) ggL_law_L_comes
set_option maxRecDepth 20000 in
theorem ggL_law_X4_comes : GoodIn wsL_law wsX4_comes := goodIn_r _ [396, 186, 397, 398, 399, 5, 400, 320, 188, 189, 190, 235, 236, 237, 238, 187, 325, 326, 327, 328, 329, 298, 137, 299, 195, 196, 197, 198, 55, 330, 331, 332, 333, 56, 191, 192, 193, 194, 712, 713, 714, 715, 716, 717, 718, 719, 720, 721, 722] (by decide +kernel) (by decide +kernel)
set_option maxRecDepth 20000 in
theorem gL_law_X4_comes : GoodIn wsL_law (wsV RL 114 RX4 yX4_comes wsX4_comes) := goodIn_app (goodIn_of _ (by decide +kernel)) ggL_law_X4_comes
set_option maxRecDepth 20000 in
theorem ggL_law_L_reading : GoodIn wsL_law wsL_reading := goodIn_ca (goodIn_r _ [403, 210, 404, 405, 406, 2, 407, 215, 216, 17, 84, 19, 283, 388, 389, 390, 391, 86, 87, 88, 16, 89, 90, 77, 78, 79, 218, 219, 220, 221, 91, 92, 93, 94, 95, 96, 97, 98, 99, 100, 101, 102, 103, 104, 105, 106, 30, 408, 409, 410, 76, 411, 112, 412, 288, 289, 290, 291, 292, 293, 294, 295, 296, 297, 298, 137, 299, 300, 301, 302, 303, 304, 305, 306, 307, 226, 115, 116, 413, 343, 344, 345, 346, 347, 348, 349, 350, 113, 114, 707, 708, 709, 710, 711, 723, 724, 725, 737, 738, 739, 740, 741, 742, 743, 744, 745, 746, 747, 748] (by decide +kernel) (by decide +kernel)) (goodIn_sub (fun _ h => List.mem_append_right _ h) (by decide +kernel))
set_option maxRecDepth 20000 in
theorem gL_law_L_reading : GoodIn wsL_law (va_wsS RL 115 yL_reading wsL_reading) := goodIn_app (goodIn_of _ (by decide +kernel)) ggL_law_L_reading
set_option maxRecDepth 20000 in
theorem ggL_law_X4_reading : GoodIn wsL_law wsX4_reading := goodIn_r _ [417, 186, 397, 398, 399, 5, 400, 320, 188, 189, 190, 235, 236, 237, 238, 187, 418, 419, 420, 421, 422, 321, 322, 323, 324, 325, 326, 327, 328, 329, 298, 137, 299, 195, 196, 197, 198, 55, 330, 331, 332, 333, 56, 359, 360, 361, 362, 191, 192, 193, 194, 712, 713, 714, 715, 716, 717, 718, 719, 720, 721, 722] (by decide +kernel) (by decide +kernel)
set_option maxRecDepth 20000 in
theorem gL_law_X4_reading : GoodIn wsL_law (wsV RL 117 RX4 yX4_reading wsX4_reading) := goodIn_app (goodIn_of _ (by decide +kernel)) ggL_law_X4_reading
set_option maxRecDepth 20000 in
theorem ggL_law_L_order : GoodIn wsL_law wsL_order := goodIn_ca (goodIn_r _ [425, 210, 426, 427, 428, 2, 429, 215, 216, 23, 19, 283, 18, 388, 389, 390, 391, 86, 87, 88, 16, 89, 90, 77, 78, 79, 91, 92, 93, 94, 95, 96, 97, 98, 99, 100, 101, 102, 103, 104, 105, 106, 30, 430, 431, 432, 22, 433, 434, 435, 45, 436, 46, 437, 47, 438, 439, 440, 285, 286, 76, 287, 112, 288, 289, 290, 291, 292, 293, 294, 295, 296, 297, 298, 137, 299, 300, 301, 302, 303, 304, 305, 306, 307, 226, 115, 116, 441, 409, 410, 411, 412, 413, 343, 344, 345, 346, 347, 348, 349, 350, 113, 114, 442, 443, 444, 445, 446, 447, 448, 449, 707, 708, 709, 710, 711, 723, 724, 725, 726, 727, 728, 729, 730, 731, 732, 733, 734, 735, 736, 737, 738, 739, 740, 741, 742, 743, 744, 745, 746, 747, 748] (by decide +kernel) (by decide +kernel)) (goodIn_sub (fun _ h => List.mem_append_right _ h) (by decide +kernel))
set_option maxRecDepth 20000 in
theorem gL_law_L_order : GoodIn wsL_law (va_wsS RL 118 yL_order wsL_order) := goodIn_app (goodIn_of _ (by decide +kernel)) ggL_law_L_order
set_option maxRecDepth 20000 in
theorem ggL_law_X4_order : GoodIn wsL_law wsX4_order := goodIn_r _ [453, 186, 187, 397, 398, 399, 5, 400, 320, 188, 189, 190, 191, 192, 193, 194, 321, 322, 323, 324, 325, 326, 327, 328, 329, 298, 137, 299, 195, 196, 197, 198, 55, 330, 331, 332, 333, 56, 418, 419, 420, 421, 422, 359, 360, 361, 362, 712, 713, 714, 715, 716, 717, 718, 719, 720, 721, 722] (by decide +kernel) (by decide +kernel)
set_option maxRecDepth 20000 in
theorem gL_law_X4_order : GoodIn wsL_law (wsV RL 120 RX4 yX4_order wsX4_order) := goodIn_app (goodIn_of _ (by decide +kernel)) ggL_law_X4_order
set_option maxRecDepth 20000 in
theorem ggL_law_L_halo : GoodIn wsL_law wsL_halo := goodIn_ca (goodIn_r _ [456, 210, 457, 458, 459, 2, 460, 215, 216, 23, 19, 283, 18, 388, 389, 390, 391, 86, 87, 88, 16, 89, 90, 77, 78, 79, 91, 92, 93, 94, 95, 96, 97, 98, 99, 100, 101, 102, 103, 104, 105, 106, 30, 461, 462, 463, 22, 464, 465, 466, 467, 468, 469, 434, 470, 431, 432, 433, 435, 45, 436, 46, 437, 47, 438, 439, 440, 285, 286, 76, 287, 112, 288, 289, 290, 291, 292, 293, 294, 295, 296, 297, 298, 137, 299, 300, 301, 302, 303, 304, 305, 306, 307, 226, 115, 116, 441, 409, 410, 411, 412, 413, 343, 344, 345, 346, 347, 348, 349, 350, 113, 114, 471, 472, 473, 474, 50, 475, 476, 477, 478, 479, 480, 49, 481, 482, 483, 484, 485, 486, 487, 488, 489, 48, 490, 491, 492, 493, 494, 495, 136, 138, 496, 497, 498, 499, 500, 501, 502, 503, 707, 708, 709, 710, 711, 723, 724, 725, 726, 727, 728, 729, 730, 731, 732, 733, 734, 735, 736, 737, 738, 739, 740, 741, 742, 743, 744, 745, 746, 747, 748] (by decide +kernel) (by decide +kernel)) (goodIn_sub (fun _ h => List.mem_append_right _ h) (by decide +kernel))
set_option maxRecDepth 20000 in
theorem gL_law_L_halo : GoodIn wsL_law (va_wsS RL 121 yL_halo wsL_halo) := goodIn_app (goodIn_of _ (by decide +kernel)) ggL_law_L_halo
set_option maxRecDepth 20000 in
theorem ggL_law_X4_halo : GoodIn wsL_law wsX4_halo := goodIn_r _ [507, 186, 397, 398, 399, 5, 400, 320, 188, 189, 190, 508, 509, 510, 511, 512, 513, 514, 422, 57, 515, 136, 137, 138, 58, 516, 517, 518, 519, 59, 520, 521, 522, 523, 187, 195, 196, 197, 198, 55, 321, 322, 323, 324, 325, 326, 327, 328, 329, 298, 299, 330, 331, 332, 333, 56, 418, 419, 420, 421, 359, 360, 361, 362, 524, 525, 526, 527, 528, 529, 530, 531, 532, 533, 534, 535, 536, 537, 538, 539, 540, 541, 542, 543, 544, 191, 192, 193, 194, 712, 713, 714, 715, 716, 717, 718, 719, 720, 721, 722] (by decide +kernel) (by decide +kernel)
set_option maxRecDepth 20000 in
theorem gL_law_X4_halo : GoodIn wsL_law (wsV RL 123 RX4 yX4_halo wsX4_halo) := goodIn_app (goodIn_of _ (by decide +kernel)) ggL_law_X4_halo
set_option maxRecDepth 20000 in
theorem ggL_law_L_guess : GoodIn wsL_law wsL_guess := goodIn_ca (goodIn_r _ [547, 210, 548, 549, 550, 2, 551, 215, 216, 23, 19, 283, 18, 17, 84, 85, 388, 389, 390, 391, 86, 87, 88, 16, 89, 90, 77, 78, 79, 218, 219, 220, 221, 91, 92, 93, 94, 95, 96, 97, 98, 99, 100, 101, 102, 103, 104, 105, 106, 30, 461, 462, 463, 22, 464, 465, 466, 467, 468, 469, 434, 470, 431, 432, 433, 435, 45, 436, 46, 437, 47, 438, 439, 440, 285, 286, 76, 287, 112, 288, 289, 290, 291, 292, 293, 294, 295, 296, 297, 298, 137, 299, 300, 301, 302, 303, 304, 305, 306, 307, 226, 115, 116, 441, 409, 410, 411, 412, 413, 343, 344, 345, 346, 347, 348, 349, 350, 113, 114, 471, 472, 473, 474, 50, 475, 476, 477, 478, 479, 480, 49, 481, 482, 483, 484, 485, 486, 487, 488, 489, 48, 490, 552, 553, 554, 555, 707, 708, 709, 710, 711, 737, 738, 739, 740, 741, 742, 743, 744, 723, 724, 725, 726, 727, 728, 729, 730, 731, 732, 733, 734, 735, 736, 745, 746, 747, 748] (by decide +kernel) (by decide +kernel)) (goodIn_sub (fun _ h => List.mem_append_right _ h) (by decide +kernel))
set_option maxRecDepth 20000 in
theorem gL_law_L_guess : GoodIn wsL_law (va_wsS RL 124 yL_guess wsL_guess) := goodIn_app (goodIn_of _ (by decide +kernel)) ggL_law_L_guess
set_option maxRecDepth 20000 in
theorem ggL_law_X4_guess : GoodIn wsL_law wsX4_guess := goodIn_r _ [559, 186, 397, 398, 399, 5, 400, 320, 188, 189, 190, 235, 236, 237, 238, 187, 191, 192, 193, 194, 516, 517, 518, 519, 512, 57, 58, 422, 513, 514, 59, 520, 521, 522, 523, 195, 196, 197, 198, 55, 321, 322, 323, 324, 325, 326, 327, 328, 329, 298, 137, 299, 330, 331, 332, 333, 56, 418, 419, 420, 421, 359, 360, 361, 362, 524, 525, 526, 527, 528, 529, 530, 531, 532, 560, 561, 562, 563, 712, 713, 714, 715, 716, 717, 718, 719, 720, 721, 722] (by decide +kernel) (by decide +kernel)
set_option maxRecDepth 20000 in
theorem gL_law_X4_guess : GoodIn wsL_law (wsV RL 126 RX4 yX4_guess wsX4_guess) := goodIn_app (goodIn_of _ (by decide +kernel)) ggL_law_X4_guess
set_option maxRecDepth 20000 in
theorem ggL_law_L_blame : GoodIn wsL_law wsL_blame := goodIn_ca (goodIn_r _ [566, 210, 567, 568, 569, 2, 570, 215, 216, 19, 23, 283, 18, 571, 572, 218, 219, 220, 221, 17, 86, 87, 88, 16, 89, 90, 77, 78, 79, 91, 92, 93, 94, 95, 96, 97, 98, 99, 100, 101, 102, 103, 104, 105, 106, 30, 461, 462, 463, 22, 464, 465, 466, 467, 468, 469, 434, 470, 431, 432, 433, 435, 45, 436, 46, 437, 47, 438, 439, 440, 285, 286, 76, 287, 112, 288, 289, 290, 291, 292, 293, 294, 295, 296, 297, 298, 137, 299, 300, 301, 302, 303, 304, 305, 306, 307, 226, 115, 116, 441, 409, 410, 411, 412, 413, 343, 344, 345, 346, 347, 348, 349, 350, 113, 114, 471, 472, 473, 474, 50, 475, 476, 477, 478, 479, 480, 49, 481, 482, 483, 484, 485, 486, 487, 488, 489, 48, 490, 707, 708, 709, 710, 711, 726, 727, 728, 729, 730, 731, 732, 733, 734, 735, 736, 723, 724, 725, 737, 738, 739, 740, 741, 742, 743, 744, 745, 746, 747, 748] (by decide +kernel) (by decide +kernel)) (goodIn_sub (fun _ h => List.mem_append_right _ h) (by decide +kernel))
set_option maxRecDepth 20000 in
theorem gL_law_L_blame : GoodIn wsL_law (va_wsS RL 127 yL_blame wsL_blame) := goodIn_app (goodIn_of _ (by decide +kernel)) ggL_law_L_blame
set_option maxRecDepth 20000 in
theorem ggL_law_X4_blame : GoodIn wsL_law wsX4_blame := goodIn_r _ [576, 186, 320, 512, 57, 235, 236, 237, 5, 238, 187, 188, 189, 190, 191, 192, 193, 194, 516, 517, 518, 519, 58, 422, 513, 514, 59, 520, 521, 522, 523, 195, 196, 197, 198, 55, 321, 322, 323, 324, 325, 326, 327, 328, 329, 298, 137, 299, 330, 331, 332, 333, 56, 418, 419, 420, 421, 359, 360, 361, 362, 524, 525, 526, 527, 528, 529, 530, 531, 532, 533, 534, 535, 536, 537, 538, 539, 540, 712, 713, 714, 715, 716, 717, 718, 719, 720, 721, 722] (by decide +kernel) (by decide +kernel)
set_option maxRecDepth 20000 in
theorem gL_law_X4_blame : GoodIn wsL_law (wsV RL 129 RX4 yX4_blame wsX4_blame) := goodIn_app (goodIn_of _ (by decide +kernel)) ggL_law_X4_blame
set_option maxRecDepth 20000 in
theorem ggL_law_L_advise : GoodIn wsL_law wsL_advise := goodIn_ca (goodIn_r _ [579, 210, 580, 581, 582, 2, 583, 215, 216, 17, 84, 259, 25, 218, 219, 220, 221, 86, 87, 88, 16, 89, 90, 77, 78, 79, 91, 92, 93, 94, 95, 96, 97, 98, 99, 100, 101, 102, 103, 104, 105, 106, 30, 584, 585, 586, 587, 19, 283, 23, 18, 571, 85, 284, 285, 286, 76, 287, 112, 288, 289, 290, 291, 292, 293, 294, 295, 296, 297, 298, 137, 299, 300, 301, 302, 303, 304, 305, 306, 307, 226, 115, 116, 461, 462, 463, 22, 464, 465, 466, 467, 468, 469, 434, 470, 431, 432, 433, 435, 45, 436, 46, 437, 47, 438, 439, 440, 441, 409, 410, 411, 412, 413, 343, 344, 345, 346, 347, 348, 349, 350, 113, 114, 471, 472, 473, 474, 50, 475, 476, 477, 478, 479, 480, 49, 481, 482, 483, 484, 485, 486, 487, 488, 489, 48, 490, 408, 552, 553, 554, 555, 588, 707, 708, 709, 710, 711, 737, 738, 739, 740, 741, 742, 743, 744, 723, 724, 725, 726, 727, 728, 729, 730, 731, 732, 733, 734, 735, 736, 745, 746, 747, 748] (by decide +kernel) (by decide +kernel)) (goodIn_sub (fun _ h => List.mem_append_right _ h) (by decide +kernel))
set_option maxRecDepth 20000 in
theorem gL_law_L_advise : GoodIn wsL_law (va_wsS RL 130 yL_advise wsL_advise) := goodIn_app (goodIn_of _ (by decide +kernel)) ggL_law_L_advise
set_option maxRecDepth 20000 in
theorem ggL_law_X4_advise : GoodIn wsL_law wsX4_advise := goodIn_r _ [592, 186, 24, 320, 512, 59, 380, 166, 167, 168, 235, 236, 237, 5, 238, 187, 188, 189, 190, 191, 192, 193, 194, 516, 517, 518, 519, 57, 58, 422, 513, 514, 520, 521, 522, 523, 195, 196, 197, 198, 55, 321, 322, 323, 324, 325, 326, 327, 328, 329, 298, 137, 299, 330, 331, 332, 333, 56, 418, 419, 420, 421, 359, 360, 361, 362, 524, 525, 526, 527, 528, 529, 530, 531, 532, 560, 561, 562, 563, 712, 713, 714, 715, 716, 717, 718, 719, 720, 721, 722] (by decide +kernel) (by decide +kernel)
set_option maxRecDepth 20000 in
theorem gL_law_X4_advise : GoodIn wsL_law (wsV RL 132 RX4 yX4_advise wsX4_advise) := goodIn_app (goodIn_of _ (by decide +kernel)) ggL_law_X4_advise
set_option maxRecDepth 20000 in
theorem ggL_law_L_wire : GoodIn wsL_law wsL_wire := goodIn_ca (goodIn_ca (goodIn_r _ [595, 210, 64, 596, 597, 598, 2, 599, 215, 216, 70, 71, 341, 17, 84, 85, 600, 298, 137, 299, 218, 219, 220, 221, 86, 87, 88, 16, 89, 90, 77, 78, 79, 91, 92, 93, 94, 95, 96, 97, 98, 99, 100, 101, 102, 103, 104, 105, 106, 30, 342, 343, 344, 76, 345, 346, 347, 348, 349, 350, 113, 114, 707, 708, 709, 710, 711, 737, 738, 739, 740, 741, 742, 743, 744, 723, 724, 725] (by decide +kernel) (by decide +kernel)) (goodIn_sub (fun _ h => List.mem_append_right _ h) (by decide +kernel))) (goodIn_sub (fun _ h => List.mem_append_left _ (List.mem_append_left _ (List.mem_append_right _ h))) (by decide +kernel))
set_option maxRecDepth 20000 in
theorem gL_law_L_wire : GoodIn wsL_law (va_wsS RL 133 yL_wire wsL_wire) := goodIn_app (goodIn_of _ (by decide +kernel)) ggL_law_L_wire
set_option maxRecDepth 20000 in
theorem ggL_law_X4_wire : GoodIn wsL_law wsX4_wire := goodIn_r _ [604, 186, 329, 298, 137, 299, 235, 236, 237, 5, 238, 187, 188, 189, 190, 191, 192, 193, 194, 355, 356, 357, 358, 195, 196, 197, 198, 55, 359, 360, 361, 362, 712, 713, 714, 715, 716, 717, 718, 719, 720, 721, 722] (by decide +kernel) (by decide +kernel)
set_option maxRecDepth 20000 in
theorem gL_law_X4_wire : GoodIn wsL_law (wsV RL 135 RX4 yX4_wire wsX4_wire) := goodIn_app (goodIn_of _ (by decide +kernel)) ggL_law_X4_wire
set_option maxRecDepth 20000 in
theorem ggL_law_L_align : GoodIn wsL_law wsL_align := goodIn_ca (goodIn_ca (goodIn_ca (goodIn_r _ [607, 210, 64, 65, 608, 609, 610, 2, 611, 215, 216, 70, 71, 72, 73, 341, 17, 84, 257, 258, 218, 219, 220, 221, 86, 87, 88, 16, 89, 90, 77, 78, 79, 91, 92, 93, 94, 95, 96, 97, 98, 99, 100, 101, 102, 103, 104, 105, 106, 30, 342, 343, 344, 76, 345, 346, 347, 348, 349, 350, 113, 114, 612, 613, 614, 615, 616, 617, 618, 619, 259, 707, 708, 709, 710, 711, 723, 724, 725, 737, 738, 739, 740, 741, 742, 743, 744] (by decide +kernel) (by decide +kernel)) (goodIn_sub (fun _ h => List.mem_append_right _ h) (by decide +kernel))) (goodIn_sub (fun _ h => List.mem_append_left _ (List.mem_append_left _ (List.mem_append_right _ h))) (by decide +kernel))) (goodIn_sub (fun _ h => List.mem_append_left _ (List.mem_append_right _ h)) (by decide +kernel))
set_option maxRecDepth 20000 in
theorem gL_law_L_align : GoodIn wsL_law (va_wsS RL 136 yL_align wsL_align) := goodIn_app (goodIn_of _ (by decide +kernel)) ggL_law_L_align
set_option maxRecDepth 20000 in
theorem ggL_law_X4_align : GoodIn wsL_law wsX4_align := goodIn_r _ [623, 186, 187, 264, 265, 235, 236, 237, 5, 238, 188, 189, 190, 191, 192, 193, 194, 355, 356, 357, 358, 359, 360, 361, 362, 195, 196, 197, 198, 55, 199, 200, 201, 202, 712, 713, 714, 715, 716, 717, 718, 719, 720, 721, 722] (by decide +kernel) (by decide +kernel)
set_option maxRecDepth 20000 in
theorem gL_law_X4_align : GoodIn wsL_law (wsV RL 138 RX4 yX4_align wsX4_align) := goodIn_app (goodIn_of _ (by decide +kernel)) ggL_law_X4_align
set_option maxRecDepth 20000 in
theorem ggL_law_L_spread : GoodIn wsL_law wsL_spread := goodIn_ca (goodIn_r _ [626, 64, 627, 628, 629, 2, 630, 70, 71, 341, 17, 84, 631, 163, 137, 164, 632, 136, 138, 77, 78, 79, 633, 634, 635, 16, 636, 90, 91, 92, 93, 94, 95, 96, 97, 98, 99, 100, 101, 102, 103, 104, 105, 106, 30, 342, 343, 344, 76, 345, 346, 347, 348, 349, 350, 113, 114, 86, 87, 88, 89, 707, 708, 709, 710, 711, 723, 724, 725, 737, 738, 739, 740, 741, 742, 743, 744] (by decide +kernel) (by decide +kernel)) (goodIn_sub (fun _ h => List.mem_append_left _ (List.mem_append_left _ (List.mem_append_right _ h))) (by decide +kernel))
set_option maxRecDepth 20000 in
theorem gL_law_L_spread : GoodIn wsL_law (va_wsS RL 139 yL_spread wsL_spread) := goodIn_app (goodIn_of _ (by decide +kernel)) ggL_law_L_spread
set_option maxRecDepth 20000 in
theorem ggL_law_X4_spread : GoodIn wsL_law wsX4_spread := goodIn_r _ [640, 186, 187, 515, 136, 137, 138, 355, 356, 5, 357, 358, 188, 189, 190, 191, 192, 193, 194, 359, 360, 361, 362, 195, 196, 197, 198, 55, 712, 713, 714, 715, 716, 717, 718, 719, 720, 721, 722] (by decide +kernel) (by decide +kernel)
set_option maxRecDepth 20000 in
theorem gL_law_X4_spread : GoodIn wsL_law (wsV RL 141 RX4 yX4_spread wsX4_spread) := goodIn_app (goodIn_of _ (by decide +kernel)) ggL_law_X4_spread
set_option maxRecDepth 20000 in
theorem ggL_law_L_count : GoodIn wsL_law wsL_count := goodIn_ca (goodIn_r _ [643, 210, 644, 645, 646, 2, 647, 215, 216, 77, 78, 79, 648, 649, 650, 651, 17, 19, 86, 87, 88, 16, 89, 90, 652, 653, 654, 655, 283, 91, 92, 93, 94, 95, 96, 97, 98, 99, 100, 101, 102, 103, 104, 105, 106, 30, 656, 657, 658, 659, 84, 284, 285, 286, 76, 287, 112, 288, 289, 290, 291, 292, 293, 294, 295, 296, 297, 298, 137, 299, 300, 301, 302, 303, 304, 305, 306, 307, 226, 115, 116, 660, 661, 662, 663, 664, 665, 666, 667, 217, 707, 708, 709, 710, 711, 723, 724, 725, 737, 738, 739, 740, 741, 742, 743, 744, 745, 746, 747, 748] (by decide +kernel) (by decide +kernel)) (goodIn_sub (fun _ h => List.mem_append_right _ h) (by decide +kernel))
set_option maxRecDepth 20000 in
theorem gL_law_L_count : GoodIn wsL_law (va_wsS RL 142 yL_count wsL_count) := goodIn_app (goodIn_of _ (by decide +kernel)) ggL_law_L_count
set_option maxRecDepth 20000 in
theorem ggL_law_X4_count : GoodIn wsL_law wsX4_count := goodIn_r _ [671, 186, 188, 189, 5, 190, 672, 673, 674, 675, 187, 320, 512, 195, 196, 197, 198, 55, 516, 517, 518, 519, 57, 58, 422, 513, 514, 59, 520, 521, 522, 523, 321, 322, 323, 324, 325, 326, 327, 328, 329, 298, 137, 299, 330, 331, 332, 333, 56, 418, 419, 420, 421, 359, 360, 361, 362, 524, 525, 526, 527, 528, 529, 530, 531, 532, 191, 192, 193, 194, 712, 713, 714, 715, 716, 717, 718, 719, 720, 721, 722] (by decide +kernel) (by decide +kernel)
set_option maxRecDepth 20000 in
theorem gL_law_X4_count : GoodIn wsL_law (wsV RL 144 RX4 yX4_count wsX4_count) := goodIn_app (goodIn_of _ (by decide +kernel)) ggL_law_X4_count
set_option maxRecDepth 20000 in
theorem ggL_law_L_error : GoodIn wsL_law wsL_error := goodIn_ca (goodIn_r _ [678, 210, 679, 680, 681, 2, 682, 215, 216, 23, 19, 283, 18, 388, 389, 390, 391, 86, 87, 88, 16, 89, 90, 77, 78, 79, 91, 92, 93, 94, 95, 96, 97, 98, 99, 100, 101, 102, 103, 104, 105, 106, 30, 461, 462, 463, 22, 464, 465, 466, 467, 468, 469, 434, 470, 431, 432, 433, 435, 45, 436, 46, 437, 47, 438, 439, 440, 285, 286, 76, 287, 112, 288, 289, 290, 291, 292, 293, 294, 295, 296, 297, 298, 137, 299, 300, 301, 302, 303, 304, 305, 306, 307, 226, 115, 116, 441, 409, 410, 411, 412, 413, 343, 344, 345, 346, 347, 348, 349, 350, 113, 114, 471, 472, 473, 474, 50, 475, 476, 477, 478, 479, 480, 49, 481, 482, 483, 484, 485, 486, 487, 488, 489, 48, 490, 683, 684, 685, 686, 707, 708, 709, 710, 711, 723, 724, 725, 726, 727, 728, 729, 730, 731, 732, 733, 734, 735, 736, 737, 738, 739, 740, 741, 742, 743, 744, 745, 746, 747, 748] (by decide +kernel) (by decide +kernel)) (goodIn_sub (fun _ h => List.mem_append_right _ h) (by decide +kernel))
set_option maxRecDepth 20000 in
theorem gL_law_L_error : GoodIn wsL_law (va_wsS RL 145 yL_error wsL_error) := goodIn_app (goodIn_of _ (by decide +kernel)) ggL_law_L_error
set_option maxRecDepth 20000 in
theorem ggL_law_X4_error : GoodIn wsL_law wsX4_error := goodIn_r _ [690, 186, 512, 329, 298, 137, 299, 397, 398, 399, 5, 400, 320, 188, 189, 190, 516, 517, 518, 519, 57, 58, 422, 513, 514, 59, 520, 521, 522, 523, 187, 195, 196, 197, 198, 55, 321, 322, 323, 324, 325, 326, 327, 328, 330, 331, 332, 333, 56, 418, 419, 420, 421, 359, 360, 361, 362, 524, 525, 526, 527, 528, 529, 530, 531, 532, 537, 538, 539, 540, 712, 713, 714, 715, 716, 717, 718, 719, 720, 721, 722] (by decide +kernel) (by decide +kernel)
set_option maxRecDepth 20000 in
theorem gL_law_X4_error : GoodIn wsL_law (wsV RL 148 RX4 yX4_error wsX4_error) := goodIn_app (goodIn_of _ (by decide +kernel)) ggL_law_X4_error
set_option maxRecDepth 20000 in
theorem ggL_law_X3_digest : GoodIn wsL_law wsX3_digest := goodIn_r _ [694, 695, 696, 17, 84, 19, 283, 648, 649, 650, 2, 651, 86, 87, 88, 16, 89, 90, 652, 653, 654, 655, 91, 92, 93, 94, 95, 96, 97, 98, 99, 100, 101, 102, 103, 104, 105, 106, 30, 656, 657, 658, 659, 284, 285, 286, 76, 287, 112, 288, 289, 290, 291, 292, 293, 294, 295, 296, 297, 298, 137, 299, 300, 301, 302, 303, 304, 305, 306, 307, 226, 115, 116, 660, 661, 662, 663, 664, 665, 666, 667, 217, 273, 274, 275, 276, 85, 277, 278, 259, 279, 280, 281, 282, 697, 698, 699, 700, 23, 18, 461, 462, 463, 22, 464, 465, 466, 467, 468, 469, 434, 470, 431, 432, 433, 435, 45, 436, 46, 437, 47, 438, 439, 440, 441, 409, 410, 411, 412, 413, 343, 344, 345, 346, 347, 348, 349, 350, 113, 114, 471, 472, 473, 474, 50, 475, 476, 477, 478, 479, 480, 49, 481, 482, 483, 484, 485, 486, 487, 488, 489, 48, 490, 491, 492, 493, 494, 495, 136, 138, 496, 497, 498, 499, 500, 501, 502, 503, 408, 707, 708, 709, 710, 711, 723, 724, 725, 737, 738, 739, 740, 741, 742, 743, 744, 745, 746, 747, 748, 726, 727, 728, 729, 730, 731, 732, 733, 734, 735, 736] (by decide +kernel) (by decide +kernel)
set_option maxRecDepth 20000 in
theorem gL_law_X3_digest : GoodIn wsL_law (wsV RL 149 RX3 yX3_digest wsX3_digest) := goodIn_app (goodIn_of _ (by decide +kernel)) ggL_law_X3_digest
set_option maxRecDepth 20000 in
theorem ggL_law_X4_digest : GoodIn wsL_law wsX4_digest := goodIn_r _ [704, 186, 705, 706, 187, 320, 672, 673, 674, 5, 675, 512, 195, 196, 197, 198, 55, 516, 517, 518, 519, 57, 58, 422, 513, 514, 59, 520, 521, 522, 523, 321, 322, 323, 324, 325, 326, 327, 328, 329, 298, 137, 299, 330, 331, 332, 333, 56, 188, 189, 190, 418, 419, 420, 421, 359, 360, 361, 362, 524, 525, 526, 527, 528, 529, 530, 531, 532, 312, 313, 314, 315, 316, 317, 318, 319, 508, 509, 510, 511, 515, 136, 138, 533, 534, 535, 536, 537, 538, 539, 540, 541, 542, 543, 544, 712, 713, 714, 715, 716, 717, 718, 719, 720, 721, 722] (by decide +kernel) (by decide +kernel)
set_option maxRecDepth 20000 in
theorem gL_law_X4_digest : GoodIn wsL_law (wsV RL 153 RX4 yX4_digest wsX4_digest) := goodIn_app (goodIn_of _ (by decide +kernel)) ggL_law_X4_digest
