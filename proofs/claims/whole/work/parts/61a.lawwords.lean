set_option maxRecDepth 20000 in
theorem ggL_law_X6_init : GoodIn wsL_law wsX6_init := goodIn_r _ [9, 10, 11, 12, 13, 14, 15, 16, 17, 18, 19, 20, 21, 22, 23, 24, 25, 26, 27, 28, 29, 30, 31, 32, 33, 34, 35, 36, 37, 38, 39, 40, 41, 42, 43, 44, 45, 46, 47, 48, 49, 50, 51, 52, 53, 54, 55, 56, 57, 58, 59, 60, 61, 62, 63, 64, 65, 66, 67, 68, 69, 70, 71, 72, 73, 74, 75, 76, 77, 78, 79, 80, 81, 82, 83, 84, 85, 86, 87, 88, 89, 90, 91, 92, 93, 94, 95, 96, 97, 98, 799, 800, 801, 802, 803, 804, 805, 806, 782, 783, 784, 807, 808, 809, 810, 811, 812, 813, 814, 815, 816, 817, 818, 819, 820, 821, 822, 823, 824, 825, 826, 827, 828, 829, 830, 831, 832, 833] (by decide +kernel) (by decide +kernel)
set_option maxRecDepth 20000 in
theorem gL_law_X6_init : GoodIn wsL_law (wsX6_init) := ggL_law_X6_init
set_option maxRecDepth 20000 in
theorem ggL_law_X7_init : GoodIn wsL_law wsX7_init := goodIn_r _ [101, 102, 11, 12, 41, 103, 104, 105, 106, 107, 108, 109, 110, 785, 786, 787, 788, 789, 790, 791, 792, 793, 794, 795, 796, 797, 798] (by decide +kernel) (by decide +kernel)
set_option maxRecDepth 20000 in
theorem gL_law_X7_init : GoodIn wsL_law (wsX7_init) := ggL_law_X7_init
set_option maxRecDepth 20000 in
theorem ggL_law_L_addStation : GoodIn wsL_law wsL_addStation := goodIn_ca (goodIn_ca (goodIn_r _ [114, 115, 116, 117, 118, 119, 2, 120, 121, 122, 123, 124, 16, 125, 126, 127, 128, 129, 130, 15, 131, 28, 132, 133, 70, 71, 27, 72, 42, 782, 783, 784, 799, 800, 801, 802, 803, 804, 805, 806, 813] (by decide +kernel) (by decide +kernel)) (goodIn_sub (fun _ h => List.mem_append_left _ (List.mem_append_left _ (List.mem_append_right _ h))) (by decide +kernel))) (goodIn_sub (fun _ h => List.mem_append_left _ (List.mem_append_right _ h)) (by decide +kernel))
set_option maxRecDepth 20000 in
theorem gL_law_L_addStation : GoodIn wsL_law (va_wsS RL 78 yL_addStation wsL_addStation) := goodIn_app (goodIn_of _ (by decide +kernel)) ggL_law_L_addStation
set_option maxRecDepth 20000 in
theorem ggL_law_X7_addStation : GoodIn wsL_law wsX7_addStation := goodIn_r _ [137, 138, 139, 103, 140, 141, 5, 142, 143, 144, 145, 146, 785, 786, 787, 788, 789, 790, 791, 792, 793, 794, 795, 796, 797, 798] (by decide +kernel) (by decide +kernel)
set_option maxRecDepth 20000 in
theorem gL_law_X7_addStation : GoodIn wsL_law (wsV RL 83 RX7 yX7_addStation wsX7_addStation) := goodIn_app (goodIn_of _ (by decide +kernel)) ggL_law_X7_addStation
set_option maxRecDepth 20000 in
theorem ggL_law_X7_thrown : GoodIn wsL_law wsX7_thrown := goodIn_r _ [150, 138, 785, 786, 787, 788, 789, 790, 791, 792, 793, 794, 795, 796, 797, 798] (by decide +kernel) (by decide +kernel)
set_option maxRecDepth 20000 in
theorem gL_law_X7_thrown : GoodIn wsL_law (wsV RL 84 RX7 yX7_thrown wsX7_thrown) := goodIn_app (goodIn_of _ (by decide +kernel)) ggL_law_X7_thrown
set_option maxRecDepth 20000 in
theorem ggL_law_L_setSight : GoodIn wsL_law wsL_setSight := goodIn_ca (goodIn_ca (goodIn_r _ [153, 154, 115, 155, 156, 157, 2, 158, 159, 160, 121, 122, 16, 161, 162, 163, 164, 125, 126, 127, 165, 166, 167, 15, 168, 29, 169, 170, 171, 27, 172, 42, 173, 174, 175, 176, 133, 70, 71, 72, 177, 178, 179, 180, 181, 182, 183, 184, 782, 783, 784, 799, 800, 801, 802, 803, 804, 805, 806, 813] (by decide +kernel) (by decide +kernel)) (goodIn_sub (fun _ h => List.mem_append_right _ h) (by decide +kernel))) (goodIn_sub (fun _ h => List.mem_append_left _ (List.mem_append_left _ (List.mem_append_right _ h))) (by decide +kernel))
set_option maxRecDepth 20000 in
theorem gL_law_L_setSight : GoodIn wsL_law (va_wsS RL 88 yL_setSight wsL_setSight) := goodIn_app (goodIn_of _ (by decide +kernel)) ggL_law_L_setSight
set_option maxRecDepth 20000 in
theorem ggL_law_X7_setSight : GoodIn wsL_law wsX7_setSight := goodIn_r _ [188, 138, 104, 189, 190, 191, 5, 192, 139, 140, 141, 142, 143, 144, 145, 146, 193, 179, 180, 181, 182, 183, 184, 785, 786, 787, 788, 789, 790, 791, 792, 793, 794, 795, 796, 797, 798] (by decide +kernel) (by decide +kernel)
set_option maxRecDepth 20000 in
theorem gL_law_X7_setSight : GoodIn wsL_law (wsV RL 91 RX7 yX7_setSight wsX7_setSight) := goodIn_app (goodIn_of _ (by decide +kernel)) ggL_law_X7_setSight
set_option maxRecDepth 20000 in
theorem ggL_law_L_setFog : GoodIn wsL_law wsL_setFog := goodIn_ca (goodIn_r _ [196, 154, 197, 198, 199, 2, 200, 159, 160, 16, 161, 162, 163, 164, 125, 126, 127, 201, 173, 174, 202, 175, 176, 178, 179, 180, 181, 182, 183, 184, 782, 783, 784, 799, 800, 801, 802, 803, 804, 805, 806] (by decide +kernel) (by decide +kernel)) (goodIn_sub (fun _ h => List.mem_append_right _ h) (by decide +kernel))
set_option maxRecDepth 20000 in
theorem gL_law_L_setFog : GoodIn wsL_law (va_wsS RL 92 yL_setFog wsL_setFog) := goodIn_app (goodIn_of _ (by decide +kernel)) ggL_law_L_setFog
set_option maxRecDepth 20000 in
theorem ggL_law_X7_setFog : GoodIn wsL_law wsX7_setFog := goodIn_r _ [206, 138, 207, 189, 190, 191, 5, 192, 139, 140, 141, 142, 143, 144, 145, 146, 193, 179, 180, 181, 182, 183, 184, 785, 786, 787, 788, 789, 790, 791, 792, 793, 794, 795, 796, 797, 798] (by decide +kernel) (by decide +kernel)
set_option maxRecDepth 20000 in
theorem gL_law_X7_setFog : GoodIn wsL_law (wsV RL 95 RX7 yX7_setFog wsX7_setFog) := goodIn_app (goodIn_of _ (by decide +kernel)) ggL_law_X7_setFog
set_option maxRecDepth 20000 in
theorem ggL_law_L_build : GoodIn wsL_law wsL_build := goodIn_ca (goodIn_ca (goodIn_ca (goodIn_r _ [210, 154, 115, 116, 211, 212, 213, 2, 214, 159, 160, 121, 122, 123, 124, 16, 161, 162, 163, 164, 125, 126, 127, 215, 216, 217, 15, 218, 30, 219, 31, 32, 133, 70, 71, 27, 72, 42, 782, 783, 784, 799, 800, 801, 802, 803, 804, 805, 806, 813] (by decide +kernel) (by decide +kernel)) (goodIn_sub (fun _ h => List.mem_append_right _ h) (by decide +kernel))) (goodIn_sub (fun _ h => List.mem_append_left _ (List.mem_append_left _ (List.mem_append_right _ h))) (by decide +kernel))) (goodIn_sub (fun _ h => List.mem_append_left _ (List.mem_append_right _ h)) (by decide +kernel))
set_option maxRecDepth 20000 in
theorem gL_law_L_build : GoodIn wsL_law (va_wsS RL 96 yL_build wsL_build) := goodIn_app (goodIn_of _ (by decide +kernel)) ggL_law_L_build
set_option maxRecDepth 20000 in
theorem ggL_law_X7_build : GoodIn wsL_law wsX7_build := goodIn_r _ [223, 138, 224, 41, 105, 225, 226, 227, 228, 189, 190, 191, 5, 192, 139, 140, 141, 142, 143, 144, 145, 146, 785, 786, 787, 788, 789, 790, 791, 792, 793, 794, 795, 796, 797, 798] (by decide +kernel) (by decide +kernel)
set_option maxRecDepth 20000 in
theorem gL_law_X7_build : GoodIn wsL_law (wsV RL 99 RX7 yX7_build wsX7_build) := goodIn_app (goodIn_of _ (by decide +kernel)) ggL_law_X7_build
set_option maxRecDepth 20000 in
theorem ggL_law_L_addMule : GoodIn wsL_law wsL_addMule := goodIn_ca (goodIn_ca (goodIn_ca (goodIn_r _ [231, 154, 115, 116, 232, 233, 234, 2, 235, 159, 160, 121, 122, 123, 124, 20, 16, 236, 237, 238, 239, 125, 126, 127, 177, 170, 171, 27, 172, 42, 240, 241, 242, 19, 243, 54, 50, 59, 244, 245, 246, 53, 247, 77, 248, 78, 79, 80, 81, 249, 70, 71, 72, 250, 251, 252, 49, 253, 254, 255, 256, 257, 258, 259, 260, 261, 262, 15, 263, 28, 264, 38, 39, 40, 32, 169, 265, 266, 267, 268, 65, 269, 270, 271, 272, 69, 273, 274, 275, 276, 277, 278, 279, 280, 66, 281, 282, 283, 284, 30, 31, 782, 783, 784, 807, 808, 809, 810, 811, 812, 816, 817, 818, 819, 820, 821, 799, 800, 801, 802, 803, 804, 805, 806, 813, 814, 815] (by decide +kernel) (by decide +kernel)) (goodIn_sub (fun _ h => List.mem_append_right _ h) (by decide +kernel))) (goodIn_sub (fun _ h => List.mem_append_left _ (List.mem_append_left _ (List.mem_append_right _ h))) (by decide +kernel))) (goodIn_sub (fun _ h => List.mem_append_left _ (List.mem_append_right _ h)) (by decide +kernel))
set_option maxRecDepth 20000 in
theorem gL_law_L_addMule : GoodIn wsL_law (va_wsS RL 100 yL_addMule wsL_addMule) := goodIn_app (goodIn_of _ (by decide +kernel)) ggL_law_L_addMule
set_option maxRecDepth 20000 in
theorem ggL_law_X7_addMule : GoodIn wsL_law wsX7_addMule := goodIn_r _ [288, 138, 289, 290, 291, 292, 5, 293, 224, 140, 141, 142, 143, 144, 145, 146, 294, 295, 296, 297, 105, 298, 299, 300, 301, 41, 106, 225, 226, 227, 228, 785, 786, 787, 788, 789, 790, 791, 792, 793, 794, 795, 796, 797, 798] (by decide +kernel) (by decide +kernel)
set_option maxRecDepth 20000 in
theorem gL_law_X7_addMule : GoodIn wsL_law (wsV RL 102 RX7 yX7_addMule wsX7_addMule) := goodIn_app (goodIn_of _ (by decide +kernel)) ggL_law_X7_addMule
set_option maxRecDepth 20000 in
theorem ggL_law_L_station : GoodIn wsL_law wsL_station := goodIn_ca (goodIn_r _ [304, 154, 305, 306, 307, 2, 308, 159, 160, 161, 162, 163, 164, 16, 125, 126, 127, 309, 310, 311, 312, 20, 177, 170, 171, 27, 172, 42, 313, 314, 315, 57, 316, 317, 90, 91, 318, 319, 320, 321, 53, 322, 248, 79, 258, 323, 324, 325, 326, 80, 178, 179, 180, 181, 182, 183, 184, 327, 328, 329, 201, 173, 174, 782, 783, 784, 799, 800, 801, 802, 803, 804, 805, 806, 807, 808, 809, 810, 811, 812, 813, 822, 823, 824, 825, 826, 827, 828, 829, 830, 831, 832, 833, 816, 817, 818, 819, 820, 821] (by decide +kernel) (by decide +kernel)) (goodIn_sub (fun _ h => List.mem_append_right _ h) (by decide +kernel))
set_option maxRecDepth 20000 in
theorem gL_law_L_station : GoodIn wsL_law (va_wsS RL 103 yL_station wsL_station) := goodIn_app (goodIn_of _ (by decide +kernel)) ggL_law_L_station
set_option maxRecDepth 20000 in
theorem ggL_law_X7_station : GoodIn wsL_law wsX7_station := goodIn_r _ [333, 138, 189, 190, 191, 5, 192, 139, 140, 141, 142, 334, 335, 336, 337, 289, 103, 104, 207, 338, 339, 340, 341, 106, 342, 343, 344, 345, 346, 347, 348, 349, 350, 107, 193, 179, 180, 181, 182, 183, 184, 143, 144, 145, 146, 785, 786, 787, 788, 789, 790, 791, 792, 793, 794, 795, 796, 797, 798] (by decide +kernel) (by decide +kernel)
set_option maxRecDepth 20000 in
theorem gL_law_X7_station : GoodIn wsL_law (wsV RL 106 RX7 yX7_station wsX7_station) := goodIn_app (goodIn_of _ (by decide +kernel)) ggL_law_X7_station
set_option maxRecDepth 20000 in
theorem ggL_law_L_road : GoodIn wsL_law wsL_road := goodIn_ca (goodIn_r _ [353, 154, 354, 355, 356, 2, 357, 159, 160, 236, 237, 238, 239, 16, 125, 126, 127, 358, 359, 360, 361, 20, 177, 170, 171, 27, 172, 42, 362, 261, 262, 15, 263, 28, 264, 38, 39, 40, 32, 169, 363, 255, 256, 53, 257, 248, 77, 258, 364, 365, 366, 367, 323, 324, 325, 326, 80, 782, 783, 784, 799, 800, 801, 802, 803, 804, 805, 806, 807, 808, 809, 810, 811, 812, 813, 816, 817, 818, 819, 820, 821] (by decide +kernel) (by decide +kernel)) (goodIn_sub (fun _ h => List.mem_append_right _ h) (by decide +kernel))
set_option maxRecDepth 20000 in
theorem gL_law_L_road : GoodIn wsL_law (va_wsS RL 107 yL_road wsL_road) := goodIn_app (goodIn_of _ (by decide +kernel)) ggL_law_L_road
set_option maxRecDepth 20000 in
theorem ggL_law_X7_road : GoodIn wsL_law wsX7_road := goodIn_r _ [371, 138, 290, 291, 292, 5, 293, 224, 140, 141, 142, 372, 373, 374, 375, 294, 295, 296, 297, 105, 376, 377, 378, 379, 103, 380, 38, 39, 40, 381, 382, 383, 384, 385, 386, 387, 388, 289, 338, 339, 340, 341, 106, 143, 144, 145, 146, 785, 786, 787, 788, 789, 790, 791, 792, 793, 794, 795, 796, 797, 798] (by decide +kernel) (by decide +kernel)
set_option maxRecDepth 20000 in
theorem gL_law_X7_road : GoodIn wsL_law (wsV RL 109 RX7 yX7_road wsX7_road) := goodIn_app (goodIn_of _ (by decide +kernel)) ggL_law_X7_road
set_option maxRecDepth 20000 in
theorem ggL_law_L_mule : GoodIn wsL_law wsL_mule := goodIn_ca (goodIn_r _ [391, 154, 392, 393, 394, 2, 395, 159, 160, 20, 125, 126, 127, 396, 397, 398, 399, 177, 170, 171, 27, 172, 42, 400, 401, 402, 57, 403, 317, 404, 405, 406, 407, 90, 92, 318, 782, 783, 784, 807, 808, 809, 810, 811, 812, 816, 817, 818, 819, 820, 821, 813, 822, 823, 824, 825, 826, 827, 828, 829, 830, 831, 832, 833] (by decide +kernel) (by decide +kernel)) (goodIn_sub (fun _ h => List.mem_append_right _ h) (by decide +kernel))
set_option maxRecDepth 20000 in
theorem gL_law_L_mule : GoodIn wsL_law (va_wsS RL 110 yL_mule wsL_mule) := goodIn_app (goodIn_of _ (by decide +kernel)) ggL_law_L_mule
set_option maxRecDepth 20000 in
theorem ggL_law_X7_mule : GoodIn wsL_law wsX7_mule := goodIn_r _ [411, 138, 289, 140, 141, 5, 142, 412, 413, 414, 415, 338, 339, 340, 341, 106, 342, 343, 344, 345, 346, 347, 348, 349, 350, 107, 143, 144, 145, 146, 785, 786, 787, 788, 789, 790, 791, 792, 793, 794, 795, 796, 797, 798] (by decide +kernel) (by decide +kernel)
set_option maxRecDepth 20000 in
theorem gL_law_X7_mule : GoodIn wsL_law (wsV RL 112 RX7 yX7_mule wsX7_mule) := goodIn_app (goodIn_of _ (by decide +kernel)) ggL_law_X7_mule
set_option maxRecDepth 20000 in
theorem ggL_law_L_post : GoodIn wsL_law wsL_post := goodIn_ca (goodIn_ca (goodIn_ca (goodIn_r _ [418, 154, 115, 116, 419, 420, 421, 2, 422, 159, 160, 121, 122, 123, 124, 20, 161, 162, 163, 164, 16, 125, 126, 127, 423, 424, 425, 57, 426, 87, 317, 88, 89, 90, 91, 92, 93, 94, 95, 96, 427, 70, 71, 27, 72, 42, 428, 429, 430, 431, 97, 318, 170, 171, 172, 782, 783, 784, 807, 808, 809, 810, 811, 812, 822, 823, 824, 825, 826, 827, 828, 829, 830, 831, 832, 833, 799, 800, 801, 802, 803, 804, 805, 806, 813] (by decide +kernel) (by decide +kernel)) (goodIn_sub (fun _ h => List.mem_append_right _ h) (by decide +kernel))) (goodIn_sub (fun _ h => List.mem_append_left _ (List.mem_append_left _ (List.mem_append_right _ h))) (by decide +kernel))) (goodIn_sub (fun _ h => List.mem_append_left _ (List.mem_append_right _ h)) (by decide +kernel))
set_option maxRecDepth 20000 in
theorem gL_law_L_post : GoodIn wsL_law (va_wsS RL 113 yL_post wsL_post) := goodIn_app (goodIn_of _ (by decide +kernel)) ggL_law_L_post
set_option maxRecDepth 20000 in
theorem ggL_law_X7_post : GoodIn wsL_law wsX7_post := goodIn_r _ [435, 138, 346, 41, 108, 107, 225, 226, 227, 228, 189, 190, 191, 5, 192, 139, 140, 141, 142, 143, 144, 145, 146, 785, 786, 787, 788, 789, 790, 791, 792, 793, 794, 795, 796, 797, 798] (by decide +kernel) (by decide +kernel)
set_option maxRecDepth 20000 in
theorem gL_law_X7_post : GoodIn wsL_law (wsV RL 115 RX7 yX7_post wsX7_post) := goodIn_app (goodIn_of _ (by decide +kernel)) ggL_law_X7_post
set_option maxRecDepth 20000 in
theorem ggL_law_L_recall : GoodIn wsL_law wsL_recall := goodIn_ca (goodIn_ca (goodIn_r _ [438, 154, 116, 439, 440, 441, 2, 442, 159, 160, 123, 124, 20, 16, 443, 444, 445, 446, 125, 126, 127, 447, 448, 449, 57, 450, 93, 318, 170, 171, 27, 172, 42, 451, 452, 453, 454, 96, 177, 201, 173, 174, 455, 70, 71, 72, 456, 457, 458, 15, 459, 132, 460, 461, 462, 463, 464, 29, 328, 329, 169, 178, 179, 180, 181, 182, 183, 184, 782, 783, 784, 807, 808, 809, 810, 811, 812, 822, 823, 824, 825, 826, 827, 828, 829, 830, 831, 832, 833, 813, 799, 800, 801, 802, 803, 804, 805, 806] (by decide +kernel) (by decide +kernel)) (goodIn_sub (fun _ h => List.mem_append_right _ h) (by decide +kernel))) (goodIn_sub (fun _ h => List.mem_append_left _ (List.mem_append_right _ h)) (by decide +kernel))
set_option maxRecDepth 20000 in
theorem gL_law_L_recall : GoodIn wsL_law (va_wsS RL 116 yL_recall wsL_recall) := goodIn_app (goodIn_of _ (by decide +kernel)) ggL_law_L_recall
set_option maxRecDepth 20000 in
theorem ggL_law_X7_recall : GoodIn wsL_law wsX7_recall := goodIn_r _ [468, 138, 139, 469, 470, 471, 5, 472, 346, 140, 141, 142, 143, 144, 145, 146, 347, 348, 349, 350, 107, 473, 474, 475, 476, 477, 478, 479, 480, 207, 104, 481, 482, 483, 193, 179, 180, 181, 182, 183, 184, 785, 786, 787, 788, 789, 790, 791, 792, 793, 794, 795, 796, 797, 798] (by decide +kernel) (by decide +kernel)
set_option maxRecDepth 20000 in
theorem gL_law_X7_recall : GoodIn wsL_law (wsV RL 118 RX7 yX7_recall wsX7_recall) := goodIn_app (goodIn_of _ (by decide +kernel)) ggL_law_X7_recall
set_option maxRecDepth 20000 in
theorem ggL_law_L_letter : GoodIn wsL_law wsL_letter := goodIn_ca (goodIn_r _ [486, 154, 487, 488, 489, 2, 490, 159, 160, 443, 444, 445, 446, 20, 125, 126, 127, 491, 492, 493, 494, 177, 170, 171, 27, 172, 42, 447, 448, 449, 57, 450, 93, 318, 178, 179, 180, 181, 182, 183, 184, 782, 783, 784, 807, 808, 809, 810, 811, 812, 822, 823, 824, 825, 826, 827, 828, 829, 830, 831, 832, 833, 813] (by decide +kernel) (by decide +kernel)) (goodIn_sub (fun _ h => List.mem_append_right _ h) (by decide +kernel))
set_option maxRecDepth 20000 in
theorem gL_law_L_letter : GoodIn wsL_law (va_wsS RL 119 yL_letter wsL_letter) := goodIn_app (goodIn_of _ (by decide +kernel)) ggL_law_L_letter
set_option maxRecDepth 20000 in
theorem ggL_law_X7_letter : GoodIn wsL_law wsX7_letter := goodIn_r _ [498, 138, 469, 470, 471, 5, 472, 346, 140, 141, 142, 499, 500, 501, 502, 347, 348, 349, 350, 107, 193, 179, 180, 181, 182, 183, 184, 143, 144, 145, 146, 785, 786, 787, 788, 789, 790, 791, 792, 793, 794, 795, 796, 797, 798] (by decide +kernel) (by decide +kernel)
set_option maxRecDepth 20000 in
theorem gL_law_X7_letter : GoodIn wsL_law (wsV RL 121 RX7 yX7_letter wsX7_letter) := goodIn_app (goodIn_of _ (by decide +kernel)) ggL_law_X7_letter
set_option maxRecDepth 20000 in
theorem ggL_law_L_pass : GoodIn wsL_law wsL_pass := goodIn_ca (goodIn_r _ [505, 115, 506, 507, 508, 2, 509, 121, 122, 20, 125, 126, 127, 510, 511, 512, 19, 513, 58, 514, 515, 516, 517, 57, 518, 317, 90, 318, 170, 171, 27, 172, 42, 519, 520, 521, 522, 54, 523, 324, 325, 53, 326, 80, 258, 524, 525, 70, 71, 72, 526, 527, 528, 529, 530, 405, 406, 407, 92, 531, 532, 533, 534, 91, 94, 96, 427, 535, 536, 537, 538, 87, 88, 539, 540, 541, 542, 59, 543, 448, 449, 450, 93, 544, 461, 462, 15, 463, 132, 464, 29, 328, 329, 201, 173, 174, 169, 545, 546, 547, 548, 549, 550, 551, 552, 553, 554, 555, 556, 557, 558, 559, 560, 561, 50, 562, 563, 564, 565, 49, 566, 66, 259, 567, 568, 569, 570, 571, 572, 573, 574, 575, 576, 282, 283, 284, 30, 31, 577, 261, 262, 263, 28, 264, 38, 39, 40, 32, 578, 579, 580, 581, 582, 583, 584, 585, 586, 587, 588, 589, 77, 79, 782, 783, 784, 807, 808, 809, 810, 811, 812, 822, 823, 824, 825, 826, 827, 828, 829, 830, 831, 832, 833, 813, 816, 817, 818, 819, 820, 821, 799, 800, 801, 802, 803, 804, 805, 806, 814, 815] (by decide +kernel) (by decide +kernel)) (goodIn_sub (fun _ h => List.mem_append_left _ (List.mem_append_left _ (List.mem_append_right _ h))) (by decide +kernel))
set_option maxRecDepth 20000 in
theorem gL_law_L_pass : GoodIn wsL_law (va_wsS RL 122 yL_pass wsL_pass) := goodIn_app (goodIn_of _ (by decide +kernel)) ggL_law_L_pass
set_option maxRecDepth 20000 in
theorem ggL_law_X7_pass : GoodIn wsL_law wsX7_pass := goodIn_r _ [593, 138, 140, 141, 5, 142, 143, 144, 145, 146, 594, 595, 596, 597, 289, 346, 108, 598, 599, 600, 601, 109, 602, 110, 224, 603, 604, 39, 605, 139, 385, 386, 387, 388, 338, 339, 340, 341, 106, 294, 295, 296, 297, 105, 376, 377, 378, 379, 103, 380, 38, 40, 381, 382, 383, 384, 606, 607, 608, 609, 347, 348, 349, 350, 107, 610, 611, 612, 613, 473, 474, 475, 476, 614, 615, 616, 617, 618, 619, 620, 621, 477, 478, 479, 480, 207, 104, 481, 482, 483, 622, 623, 624, 625, 626, 627, 628, 629, 630, 631, 632, 633, 634, 635, 636, 637, 785, 786, 787, 788, 789, 790, 791, 792, 793, 794, 795, 796, 797, 798] (by decide +kernel) (by decide +kernel)
set_option maxRecDepth 20000 in
theorem gL_law_X7_pass : GoodIn wsL_law (wsV RL 124 RX7 yX7_pass wsX7_pass) := goodIn_app (goodIn_of _ (by decide +kernel)) ggL_law_X7_pass
