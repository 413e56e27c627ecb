set_option maxRecDepth 20000 in
theorem ggL_acts_X7_mealOf : GoodIn wsL_acts wsX7_mealOf := goodIn_r _ [176, 13, 177, 178, 179, 29, 180, 32, 181, 94, 95, 39, 96, 41, 52, 9, 53, 46, 47, 48, 49, 50, 51, 182, 183, 184, 415, 416, 417, 418, 419, 420, 421, 432, 433, 434, 435, 436, 443, 444, 445, 446] (by decide +kernel) (by decide +kernel)
set_option maxRecDepth 20000 in
theorem gL_acts_X7_mealOf : GoodIn wsL_acts (wsV RL 23 RX7 yX7_mealOf wsX7_mealOf) := goodIn_app (goodIn_of _ (by decide +kernel)) ggL_acts_X7_mealOf
set_option maxRecDepth 20000 in
theorem ggL_acts_X7_personOf : GoodIn wsL_acts wsX7_personOf := goodIn_r _ [188, 13, 189, 190, 191, 29, 192, 33, 35, 181, 94, 95, 39, 96, 41, 52, 9, 53, 193, 194, 195, 57, 196, 78, 80, 197, 198, 199, 200, 60, 47, 48, 49, 50, 51, 201, 202, 203, 204, 77, 105, 37, 38, 40, 46, 415, 416, 417, 418, 419, 420, 421, 432, 433, 434, 435, 436, 443, 444, 445, 446, 437, 438, 439, 440, 441, 442] (by decide +kernel) (by decide +kernel)
set_option maxRecDepth 20000 in
theorem gL_acts_X7_personOf : GoodIn wsL_acts (wsV RL 26 RX7 yX7_personOf wsX7_personOf) := goodIn_app (goodIn_of _ (by decide +kernel)) ggL_acts_X7_personOf
set_option maxRecDepth 20000 in
theorem ggL_acts_X7_reserve : GoodIn wsL_acts wsX7_reserve := goodIn_r _ [208, 65, 66, 67, 9, 68, 69, 70, 71, 72, 73, 74, 57, 75, 76, 77, 78, 79, 59, 80, 81, 82, 83, 39, 84, 41, 51, 209, 210, 211, 88, 212, 163, 92, 91, 93, 94, 95, 96, 213, 214, 215, 216, 60, 47, 48, 49, 50, 217, 194, 195, 196, 197, 198, 199, 200, 218, 202, 203, 204, 105, 37, 38, 40, 122, 123, 124, 125, 132, 133, 134, 135, 11, 136, 137, 138, 17, 139, 19, 140, 141, 142, 143, 144, 145, 146, 415, 416, 417, 418, 419, 420, 421, 437, 438, 439, 440, 441, 442, 443, 444, 445, 446, 447, 448, 449, 450, 451, 422, 423, 424] (by decide +kernel) (by decide +kernel)
set_option maxRecDepth 20000 in
theorem gL_acts_X7_reserve : GoodIn wsL_acts (wsV RL 70 RX7 yX7_reserve wsX7_reserve) := goodIn_app (goodIn_of _ (by decide +kernel)) ggL_acts_X7_reserve
set_option maxRecDepth 20000 in
theorem ggL_acts_X7_fetch : GoodIn wsL_acts wsX7_fetch := goodIn_r _ [222, 65, 66, 67, 9, 68, 69, 70, 71, 72, 73, 74, 57, 75, 76, 77, 78, 79, 59, 80, 81, 82, 83, 39, 84, 41, 51, 223, 224, 225, 88, 226, 90, 92, 163, 93, 94, 95, 96, 52, 53, 227, 228, 229, 230, 231, 37, 38, 40, 232, 47, 48, 49, 50, 122, 123, 124, 125, 126, 127, 128, 129, 130, 131, 132, 133, 134, 135, 11, 136, 137, 138, 17, 139, 19, 140, 141, 142, 143, 144, 145, 146, 415, 416, 417, 418, 419, 420, 421, 437, 438, 439, 440, 441, 442, 443, 444, 445, 446, 447, 448, 449, 450, 451, 422, 423, 424] (by decide +kernel) (by decide +kernel)
set_option maxRecDepth 20000 in
theorem gL_acts_X7_fetch : GoodIn wsL_acts (wsV RL 73 RX7 yX7_fetch wsX7_fetch) := goodIn_app (goodIn_of _ (by decide +kernel)) ggL_acts_X7_fetch
set_option maxRecDepth 20000 in
theorem ggL_acts_X7_volunteerOf : GoodIn wsL_acts wsX7_volunteerOf := goodIn_r _ [236, 13, 237, 238, 239, 29, 240, 34, 35, 181, 94, 95, 39, 96, 41, 52, 9, 53, 241, 242, 243, 57, 244, 77, 105, 37, 38, 40, 60, 47, 48, 49, 50, 51, 245, 246, 247, 248, 79, 80, 197, 198, 199, 200, 46, 415, 416, 417, 418, 419, 420, 421, 432, 433, 434, 435, 436, 443, 444, 445, 446, 437, 438, 439, 440, 441, 442] (by decide +kernel) (by decide +kernel)
set_option maxRecDepth 20000 in
theorem gL_acts_X7_volunteerOf : GoodIn wsL_acts (wsV RL 29 RX7 yX7_volunteerOf wsX7_volunteerOf) := goodIn_app (goodIn_of _ (by decide +kernel)) ggL_acts_X7_volunteerOf
set_option maxRecDepth 20000 in
theorem ggL_acts_X7_take : GoodIn wsL_acts wsX7_take := goodIn_r _ [252, 65, 66, 67, 9, 68, 69, 70, 71, 72, 73, 74, 57, 75, 76, 77, 78, 79, 59, 80, 81, 82, 83, 39, 84, 41, 51, 253, 254, 255, 88, 256, 172, 92, 91, 90, 93, 94, 95, 96, 232, 47, 48, 49, 50, 257, 242, 243, 244, 105, 37, 38, 40, 60, 258, 107, 108, 109, 110, 111, 112, 259, 246, 247, 248, 197, 198, 199, 200, 122, 123, 124, 125, 126, 127, 128, 129, 130, 131, 132, 133, 134, 135, 11, 136, 137, 138, 17, 139, 19, 140, 141, 142, 143, 144, 145, 146, 415, 416, 417, 418, 419, 420, 421, 437, 438, 439, 440, 441, 442, 443, 444, 445, 446, 447, 448, 449, 450, 451, 422, 423, 424] (by decide +kernel) (by decide +kernel)
set_option maxRecDepth 20000 in
theorem gL_acts_X7_take : GoodIn wsL_acts (wsV RL 76 RX7 yX7_take wsX7_take) := goodIn_app (goodIn_of _ (by decide +kernel)) ggL_acts_X7_take
set_option maxRecDepth 20000 in
theorem ggL_acts_X7_go : GoodIn wsL_acts wsX7_go := goodIn_r _ [263, 65, 66, 67, 9, 68, 69, 70, 71, 72, 73, 74, 57, 75, 76, 77, 78, 79, 59, 80, 81, 82, 83, 39, 84, 41, 51, 264, 265, 266, 88, 267, 172, 90, 91, 93, 94, 95, 96, 232, 47, 48, 49, 50, 259, 246, 247, 248, 197, 198, 199, 200, 60, 268, 269, 270, 271, 272, 273, 274, 275, 55, 56, 58, 122, 123, 124, 125, 132, 133, 134, 135, 11, 136, 137, 138, 17, 139, 19, 140, 141, 142, 143, 144, 145, 146, 415, 416, 417, 418, 419, 420, 421, 437, 438, 439, 440, 441, 442, 443, 444, 445, 446, 447, 448, 449, 450, 451, 422, 423, 424] (by decide +kernel) (by decide +kernel)
set_option maxRecDepth 20000 in
theorem gL_acts_X7_go : GoodIn wsL_acts (wsV RL 79 RX7 yX7_go wsX7_go) := goodIn_app (goodIn_of _ (by decide +kernel)) ggL_acts_X7_go
