theorem goodIn_td {T ws : List Cond} (n : Nat) (h1 : GoodIn T (ws.take n)) (h2 : GoodIn T (ws.drop n)) : GoodIn T ws := by
  have h := goodIn_app h1 h2
  rw [List.take_append_drop] at h
  exact h
set_option maxRecDepth 20000 in
theorem ggL_law_X6_init : GoodIn wsL_law wsX6_init := goodIn_td 36 (goodIn_r _ [9, 10, 11, 12, 13, 14, 15, 16, 17, 18, 19, 20, 21, 22, 23, 24, 25, 26, 27, 28, 29, 30, 31, 32, 33, 34, 35, 36, 37, 38, 39, 40, 41, 42, 43, 44] (by decide +kernel) (by decide +kernel)) (goodIn_td 36 (goodIn_r _ [45, 46, 47, 48, 49, 50, 51, 52, 53, 54, 55, 56, 57, 58, 59, 60, 61, 62, 63, 64, 65, 66, 67, 68, 69, 70, 71, 72, 73, 74, 75, 76, 77, 78, 79, 80] (by decide +kernel) (by decide +kernel)) (goodIn_td 36 (goodIn_r _ [81, 82, 83, 84, 85, 86, 87, 88, 89, 90, 91, 92, 93, 94, 95, 96, 97, 98, 99, 100, 101, 808, 809, 810, 811, 812, 813, 814, 815, 791, 792, 793, 816, 817, 818, 819] (by decide +kernel) (by decide +kernel)) (goodIn_r _ [820, 821, 822, 823, 824, 825, 826, 827, 828, 829, 830, 831, 832, 833, 834, 835, 836, 837, 838, 839, 840, 841, 842, 843] (by decide +kernel) (by decide +kernel))))
set_option maxRecDepth 20000 in
theorem gL_law_X6_init : GoodIn wsL_law (wsX6_init) := ggL_law_X6_init
set_option maxRecDepth 20000 in
theorem ggL_law_X7_init : GoodIn wsL_law wsX7_init := goodIn_r _ [104, 105, 11, 12, 41, 106, 107, 108, 109, 110, 111, 112, 113, 794, 795, 796, 797, 798, 799, 800, 801, 802, 803, 804, 805, 806, 807] (by decide +kernel) (by decide +kernel)
set_option maxRecDepth 20000 in
theorem gL_law_X7_init : GoodIn wsL_law (wsX7_init) := ggL_law_X7_init
set_option maxRecDepth 20000 in
theorem ggL_law_L_addStation : GoodIn wsL_law wsL_addStation := goodIn_ca (goodIn_ca (goodIn_r _ [117, 118, 119, 120, 121, 122, 2, 123, 124, 125, 126, 127, 16, 128, 129, 130, 131, 132, 133, 15, 134, 28, 135, 136, 72, 73, 27, 74, 42, 791, 792, 793, 808, 809, 810, 811, 812, 813, 814, 815, 823] (by decide +kernel) (by decide +kernel)) (goodIn_sub (fun _ h => List.mem_append_left _ (List.mem_append_left _ (List.mem_append_right _ h))) (by decide +kernel))) (goodIn_sub (fun _ h => List.mem_append_left _ (List.mem_append_right _ h)) (by decide +kernel))
set_option maxRecDepth 20000 in
theorem gL_law_L_addStation : GoodIn wsL_law (va_wsS RL 78 yL_addStation wsL_addStation) := goodIn_app (goodIn_of _ (by decide +kernel)) ggL_law_L_addStation
set_option maxRecDepth 20000 in
theorem ggL_law_X7_addStation : GoodIn wsL_law wsX7_addStation := goodIn_r _ [140, 141, 142, 106, 143, 144, 5, 145, 146, 147, 148, 149, 794, 795, 796, 797, 798, 799, 800, 801, 802, 803, 804, 805, 806, 807] (by decide +kernel) (by decide +kernel)
set_option maxRecDepth 20000 in
theorem gL_law_X7_addStation : GoodIn wsL_law (wsV RL 83 RX7 yX7_addStation wsX7_addStation) := goodIn_app (goodIn_of _ (by decide +kernel)) ggL_law_X7_addStation
set_option maxRecDepth 20000 in
theorem ggL_law_X7_thrown : GoodIn wsL_law wsX7_thrown := goodIn_r _ [153, 141, 794, 795, 796, 797, 798, 799, 800, 801, 802, 803, 804, 805, 806, 807] (by decide +kernel) (by decide +kernel)
set_option maxRecDepth 20000 in
theorem gL_law_X7_thrown : GoodIn wsL_law (wsV RL 84 RX7 yX7_thrown wsX7_thrown) := goodIn_app (goodIn_of _ (by decide +kernel)) ggL_law_X7_thrown
set_option maxRecDepth 20000 in
theorem ggL_law_L_setSight : GoodIn wsL_law wsL_setSight := goodIn_ca (goodIn_ca (goodIn_r _ [156, 157, 118, 158, 159, 160, 2, 161, 162, 163, 124, 125, 16, 164, 165, 166, 167, 128, 129, 130, 168, 169, 170, 15, 171, 29, 172, 173, 174, 27, 175, 42, 176, 177, 178, 179, 136, 72, 73, 74, 180, 181, 182, 183, 184, 185, 186, 187, 791, 792, 793, 808, 809, 810, 811, 812, 813, 814, 815, 823] (by decide +kernel) (by decide +kernel)) (goodIn_sub (fun _ h => List.mem_append_right _ h) (by decide +kernel))) (goodIn_sub (fun _ h => List.mem_append_left _ (List.mem_append_left _ (List.mem_append_right _ h))) (by decide +kernel))
set_option maxRecDepth 20000 in
theorem gL_law_L_setSight : GoodIn wsL_law (va_wsS RL 88 yL_setSight wsL_setSight) := goodIn_app (goodIn_of _ (by decide +kernel)) ggL_law_L_setSight
set_option maxRecDepth 20000 in
theorem ggL_law_X7_setSight : GoodIn wsL_law wsX7_setSight := goodIn_r _ [191, 141, 107, 192, 193, 194, 5, 195, 142, 143, 144, 145, 146, 147, 148, 149, 196, 182, 183, 184, 185, 186, 187, 794, 795, 796, 797, 798, 799, 800, 801, 802, 803, 804, 805, 806, 807] (by decide +kernel) (by decide +kernel)
set_option maxRecDepth 20000 in
theorem gL_law_X7_setSight : GoodIn wsL_law (wsV RL 91 RX7 yX7_setSight wsX7_setSight) := goodIn_app (goodIn_of _ (by decide +kernel)) ggL_law_X7_setSight
set_option maxRecDepth 20000 in
theorem ggL_law_L_setFog : GoodIn wsL_law wsL_setFog := goodIn_ca (goodIn_r _ [199, 157, 200, 201, 202, 2, 203, 162, 163, 16, 164, 165, 166, 167, 128, 129, 130, 204, 176, 177, 205, 178, 179, 181, 182, 183, 184, 185, 186, 187, 791, 792, 793, 808, 809, 810, 811, 812, 813, 814, 815] (by decide +kernel) (by decide +kernel)) (goodIn_sub (fun _ h => List.mem_append_right _ h) (by decide +kernel))
set_option maxRecDepth 20000 in
theorem gL_law_L_setFog : GoodIn wsL_law (va_wsS RL 92 yL_setFog wsL_setFog) := goodIn_app (goodIn_of _ (by decide +kernel)) ggL_law_L_setFog
set_option maxRecDepth 20000 in
theorem ggL_law_X7_setFog : GoodIn wsL_law wsX7_setFog := goodIn_r _ [209, 141, 210, 192, 193, 194, 5, 195, 142, 143, 144, 145, 146, 147, 148, 149, 196, 182, 183, 184, 185, 186, 187, 794, 795, 796, 797, 798, 799, 800, 801, 802, 803, 804, 805, 806, 807] (by decide +kernel) (by decide +kernel)
set_option maxRecDepth 20000 in
theorem gL_law_X7_setFog : GoodIn wsL_law (wsV RL 95 RX7 yX7_setFog wsX7_setFog) := goodIn_app (goodIn_of _ (by decide +kernel)) ggL_law_X7_setFog
set_option maxRecDepth 20000 in
theorem ggL_law_L_build : GoodIn wsL_law wsL_build := goodIn_ca (goodIn_ca (goodIn_ca (goodIn_r _ [213, 157, 118, 119, 214, 215, 216, 2, 217, 162, 163, 124, 125, 126, 127, 16, 164, 165, 166, 167, 128, 129, 130, 218, 219, 220, 15, 221, 30, 222, 31, 32, 136, 72, 73, 27, 74, 42, 791, 792, 793, 808, 809, 810, 811, 812, 813, 814, 815, 823] (by decide +kernel) (by decide +kernel)) (goodIn_sub (fun _ h => List.mem_append_right _ h) (by decide +kernel))) (goodIn_sub (fun _ h => List.mem_append_left _ (List.mem_append_left _ (List.mem_append_right _ h))) (by decide +kernel))) (goodIn_sub (fun _ h => List.mem_append_left _ (List.mem_append_right _ h)) (by decide +kernel))
set_option maxRecDepth 20000 in
theorem gL_law_L_build : GoodIn wsL_law (va_wsS RL 96 yL_build wsL_build) := goodIn_app (goodIn_of _ (by decide +kernel)) ggL_law_L_build
set_option maxRecDepth 20000 in
theorem ggL_law_X7_build : GoodIn wsL_law wsX7_build := goodIn_r _ [226, 141, 227, 41, 108, 228, 229, 230, 231, 192, 193, 194, 5, 195, 142, 143, 144, 145, 146, 147, 148, 149, 794, 795, 796, 797, 798, 799, 800, 801, 802, 803, 804, 805, 806, 807] (by decide +kernel) (by decide +kernel)
set_option maxRecDepth 20000 in
theorem gL_law_X7_build : GoodIn wsL_law (wsV RL 99 RX7 yX7_build wsX7_build) := goodIn_app (goodIn_of _ (by decide +kernel)) ggL_law_X7_build
set_option maxRecDepth 20000 in
theorem ggL_law_L_addMule : GoodIn wsL_law wsL_addMule := goodIn_ca (goodIn_ca (goodIn_ca (goodIn_r _ [234, 157, 118, 119, 235, 236, 237, 2, 238, 162, 163, 124, 125, 126, 127, 20, 16, 239, 240, 241, 242, 128, 129, 130, 180, 173, 174, 27, 175, 42, 243, 244, 245, 19, 246, 54, 50, 61, 247, 248, 249, 53, 250, 79, 251, 80, 81, 82, 83, 252, 72, 73, 74, 253, 254, 255, 256, 257, 258, 259, 260, 49, 261, 262, 263, 264, 265, 266, 15, 267, 28, 268, 38, 39, 40, 32, 172, 269, 270, 271, 272, 67, 273, 274, 275, 276, 71, 277, 278, 279, 280, 281, 282, 283, 284, 68, 285, 286, 287, 288, 30, 31, 791, 792, 793, 816, 817, 818, 819, 820, 821, 822, 826, 827, 828, 829, 830, 831, 808, 809, 810, 811, 812, 813, 814, 815, 823, 824, 825] (by decide +kernel) (by decide +kernel)) (goodIn_sub (fun _ h => List.mem_append_right _ h) (by decide +kernel))) (goodIn_sub (fun _ h => List.mem_append_left _ (List.mem_append_left _ (List.mem_append_right _ h))) (by decide +kernel))) (goodIn_sub (fun _ h => List.mem_append_left _ (List.mem_append_right _ h)) (by decide +kernel))
set_option maxRecDepth 20000 in
theorem gL_law_L_addMule : GoodIn wsL_law (va_wsS RL 100 yL_addMule wsL_addMule) := goodIn_app (goodIn_of _ (by decide +kernel)) ggL_law_L_addMule
set_option maxRecDepth 20000 in
theorem ggL_law_X7_addMule : GoodIn wsL_law wsX7_addMule := goodIn_r _ [292, 141, 293, 294, 295, 296, 5, 297, 227, 143, 144, 145, 146, 147, 148, 149, 298, 299, 300, 301, 108, 302, 303, 304, 305, 41, 109, 228, 229, 230, 231, 794, 795, 796, 797, 798, 799, 800, 801, 802, 803, 804, 805, 806, 807] (by decide +kernel) (by decide +kernel)
set_option maxRecDepth 20000 in
theorem gL_law_X7_addMule : GoodIn wsL_law (wsV RL 102 RX7 yX7_addMule wsX7_addMule) := goodIn_app (goodIn_of _ (by decide +kernel)) ggL_law_X7_addMule
set_option maxRecDepth 20000 in
theorem ggL_law_L_station : GoodIn wsL_law wsL_station := goodIn_ca (goodIn_r _ [308, 157, 309, 310, 311, 2, 312, 162, 163, 164, 165, 166, 167, 16, 128, 129, 130, 313, 314, 315, 316, 20, 180, 173, 174, 27, 175, 42, 317, 318, 319, 57, 320, 321, 92, 93, 322, 323, 324, 325, 53, 326, 251, 81, 257, 327, 328, 329, 330, 82, 181, 182, 183, 184, 185, 186, 187, 331, 332, 333, 791, 792, 793, 808, 809, 810, 811, 812, 813, 814, 815, 816, 817, 818, 819, 820, 821, 822, 823, 832, 833, 834, 835, 836, 837, 838, 839, 840, 841, 842, 843, 826, 827, 828, 829, 830, 831] (by decide +kernel) (by decide +kernel)) (goodIn_sub (fun _ h => List.mem_append_right _ h) (by decide +kernel))
set_option maxRecDepth 20000 in
theorem gL_law_L_station : GoodIn wsL_law (va_wsS RL 103 yL_station wsL_station) := goodIn_app (goodIn_of _ (by decide +kernel)) ggL_law_L_station
set_option maxRecDepth 20000 in
theorem ggL_law_X7_station : GoodIn wsL_law wsX7_station := goodIn_r _ [337, 141, 192, 193, 194, 5, 195, 142, 143, 144, 145, 338, 339, 340, 341, 293, 106, 107, 210, 342, 343, 344, 345, 109, 346, 347, 348, 349, 350, 351, 352, 353, 354, 110, 196, 182, 183, 184, 185, 186, 187, 146, 147, 148, 149, 794, 795, 796, 797, 798, 799, 800, 801, 802, 803, 804, 805, 806, 807] (by decide +kernel) (by decide +kernel)
set_option maxRecDepth 20000 in
theorem gL_law_X7_station : GoodIn wsL_law (wsV RL 106 RX7 yX7_station wsX7_station) := goodIn_app (goodIn_of _ (by decide +kernel)) ggL_law_X7_station
set_option maxRecDepth 20000 in
theorem ggL_law_L_road : GoodIn wsL_law wsL_road := goodIn_ca (goodIn_r _ [357, 157, 358, 359, 360, 2, 361, 162, 163, 239, 240, 241, 242, 16, 128, 129, 130, 362, 363, 364, 365, 20, 180, 173, 174, 27, 175, 42, 366, 265, 266, 15, 267, 28, 268, 38, 39, 40, 32, 172, 367, 254, 255, 53, 256, 251, 79, 257, 368, 369, 370, 371, 327, 328, 329, 330, 82, 791, 792, 793, 808, 809, 810, 811, 812, 813, 814, 815, 816, 817, 818, 819, 820, 821, 822, 823, 826, 827, 828, 829, 830, 831] (by decide +kernel) (by decide +kernel)) (goodIn_sub (fun _ h => List.mem_append_right _ h) (by decide +kernel))
set_option maxRecDepth 20000 in
theorem gL_law_L_road : GoodIn wsL_law (va_wsS RL 107 yL_road wsL_road) := goodIn_app (goodIn_of _ (by decide +kernel)) ggL_law_L_road
set_option maxRecDepth 20000 in
theorem ggL_law_X7_road : GoodIn wsL_law wsX7_road := goodIn_r _ [375, 141, 294, 295, 296, 5, 297, 227, 143, 144, 145, 376, 377, 378, 379, 298, 299, 300, 301, 108, 380, 381, 382, 383, 106, 384, 38, 39, 40, 385, 386, 387, 388, 389, 390, 391, 392, 293, 342, 343, 344, 345, 109, 146, 147, 148, 149, 794, 795, 796, 797, 798, 799, 800, 801, 802, 803, 804, 805, 806, 807] (by decide +kernel) (by decide +kernel)
set_option maxRecDepth 20000 in
theorem gL_law_X7_road : GoodIn wsL_law (wsV RL 109 RX7 yX7_road wsX7_road) := goodIn_app (goodIn_of _ (by decide +kernel)) ggL_law_X7_road
set_option maxRecDepth 20000 in
theorem ggL_law_L_mule : GoodIn wsL_law wsL_mule := goodIn_ca (goodIn_r _ [395, 157, 396, 397, 398, 2, 399, 162, 163, 20, 128, 129, 130, 400, 401, 402, 403, 180, 173, 174, 27, 175, 42, 404, 405, 406, 57, 407, 321, 408, 409, 410, 411, 92, 94, 322, 791, 792, 793, 816, 817, 818, 819, 820, 821, 822, 826, 827, 828, 829, 830, 831, 823, 832, 833, 834, 835, 836, 837, 838, 839, 840, 841, 842, 843] (by decide +kernel) (by decide +kernel)) (goodIn_sub (fun _ h => List.mem_append_right _ h) (by decide +kernel))
set_option maxRecDepth 20000 in
theorem gL_law_L_mule : GoodIn wsL_law (va_wsS RL 110 yL_mule wsL_mule) := goodIn_app (goodIn_of _ (by decide +kernel)) ggL_law_L_mule
set_option maxRecDepth 20000 in
theorem ggL_law_X7_mule : GoodIn wsL_law wsX7_mule := goodIn_r _ [415, 141, 293, 143, 144, 5, 145, 416, 417, 418, 419, 342, 343, 344, 345, 109, 346, 347, 348, 349, 350, 351, 352, 353, 354, 110, 146, 147, 148, 149, 794, 795, 796, 797, 798, 799, 800, 801, 802, 803, 804, 805, 806, 807] (by decide +kernel) (by decide +kernel)
set_option maxRecDepth 20000 in
theorem gL_law_X7_mule : GoodIn wsL_law (wsV RL 112 RX7 yX7_mule wsX7_mule) := goodIn_app (goodIn_of _ (by decide +kernel)) ggL_law_X7_mule
set_option maxRecDepth 20000 in
theorem ggL_law_L_post : GoodIn wsL_law wsL_post := goodIn_ca (goodIn_ca (goodIn_ca (goodIn_r _ [422, 157, 118, 119, 423, 424, 425, 2, 426, 162, 163, 124, 125, 126, 127, 20, 164, 165, 166, 167, 16, 128, 129, 130, 427, 428, 429, 57, 430, 89, 321, 90, 91, 92, 93, 94, 95, 96, 97, 98, 431, 72, 73, 27, 74, 42, 432, 433, 434, 435, 99, 322, 173, 174, 175, 791, 792, 793, 816, 817, 818, 819, 820, 821, 822, 832, 833, 834, 835, 836, 837, 838, 839, 840, 841, 842, 843, 808, 809, 810, 811, 812, 813, 814, 815, 823] (by decide +kernel) (by decide +kernel)) (goodIn_sub (fun _ h => List.mem_append_right _ h) (by decide +kernel))) (goodIn_sub (fun _ h => List.mem_append_left _ (List.mem_append_left _ (List.mem_append_right _ h))) (by decide +kernel))) (goodIn_sub (fun _ h => List.mem_append_left _ (List.mem_append_right _ h)) (by decide +kernel))
set_option maxRecDepth 20000 in
theorem gL_law_L_post : GoodIn wsL_law (va_wsS RL 113 yL_post wsL_post) := goodIn_app (goodIn_of _ (by decide +kernel)) ggL_law_L_post
set_option maxRecDepth 20000 in
theorem ggL_law_X7_post : GoodIn wsL_law wsX7_post := goodIn_r _ [439, 141, 350, 41, 111, 110, 228, 229, 230, 231, 192, 193, 194, 5, 195, 142, 143, 144, 145, 146, 147, 148, 149, 794, 795, 796, 797, 798, 799, 800, 801, 802, 803, 804, 805, 806, 807] (by decide +kernel) (by decide +kernel)
set_option maxRecDepth 20000 in
theorem gL_law_X7_post : GoodIn wsL_law (wsV RL 115 RX7 yX7_post wsX7_post) := goodIn_app (goodIn_of _ (by decide +kernel)) ggL_law_X7_post
set_option maxRecDepth 20000 in
theorem ggL_law_L_recall : GoodIn wsL_law wsL_recall := goodIn_ca (goodIn_ca (goodIn_r _ [442, 157, 119, 443, 444, 445, 2, 446, 162, 163, 126, 127, 20, 16, 447, 448, 449, 450, 128, 129, 130, 451, 452, 453, 57, 454, 95, 322, 173, 174, 27, 175, 42, 455, 456, 457, 458, 98, 180, 204, 176, 177, 459, 72, 73, 74, 460, 461, 462, 15, 463, 135, 464, 465, 466, 467, 468, 29, 332, 333, 172, 181, 182, 183, 184, 185, 186, 187, 791, 792, 793, 816, 817, 818, 819, 820, 821, 822, 832, 833, 834, 835, 836, 837, 838, 839, 840, 841, 842, 843, 823, 808, 809, 810, 811, 812, 813, 814, 815] (by decide +kernel) (by decide +kernel)) (goodIn_sub (fun _ h => List.mem_append_right _ h) (by decide +kernel))) (goodIn_sub (fun _ h => List.mem_append_left _ (List.mem_append_right _ h)) (by decide +kernel))
set_option maxRecDepth 20000 in
theorem gL_law_L_recall : GoodIn wsL_law (va_wsS RL 116 yL_recall wsL_recall) := goodIn_app (goodIn_of _ (by decide +kernel)) ggL_law_L_recall
set_option maxRecDepth 20000 in
theorem ggL_law_X7_recall : GoodIn wsL_law wsX7_recall := goodIn_r _ [472, 141, 142, 473, 474, 475, 5, 476, 350, 143, 144, 145, 146, 147, 148, 149, 351, 352, 353, 354, 110, 477, 478, 479, 480, 481, 482, 483, 484, 210, 107, 485, 486, 487, 196, 182, 183, 184, 185, 186, 187, 794, 795, 796, 797, 798, 799, 800, 801, 802, 803, 804, 805, 806, 807] (by decide +kernel) (by decide +kernel)
set_option maxRecDepth 20000 in
theorem gL_law_X7_recall : GoodIn wsL_law (wsV RL 118 RX7 yX7_recall wsX7_recall) := goodIn_app (goodIn_of _ (by decide +kernel)) ggL_law_X7_recall
set_option maxRecDepth 20000 in
theorem ggL_law_L_letter : GoodIn wsL_law wsL_letter := goodIn_ca (goodIn_r _ [490, 157, 491, 492, 493, 2, 494, 162, 163, 447, 448, 449, 450, 20, 128, 129, 130, 495, 496, 497, 498, 180, 173, 174, 27, 175, 42, 451, 452, 453, 57, 454, 95, 322, 181, 182, 183, 184, 185, 186, 187, 791, 792, 793, 816, 817, 818, 819, 820, 821, 822, 832, 833, 834, 835, 836, 837, 838, 839, 840, 841, 842, 843, 823] (by decide +kernel) (by decide +kernel)) (goodIn_sub (fun _ h => List.mem_append_right _ h) (by decide +kernel))
set_option maxRecDepth 20000 in
theorem gL_law_L_letter : GoodIn wsL_law (va_wsS RL 119 yL_letter wsL_letter) := goodIn_app (goodIn_of _ (by decide +kernel)) ggL_law_L_letter
set_option maxRecDepth 20000 in
theorem ggL_law_X7_letter : GoodIn wsL_law wsX7_letter := goodIn_r _ [502, 141, 473, 474, 475, 5, 476, 350, 143, 144, 145, 503, 504, 505, 506, 351, 352, 353, 354, 110, 196, 182, 183, 184, 185, 186, 187, 146, 147, 148, 149, 794, 795, 796, 797, 798, 799, 800, 801, 802, 803, 804, 805, 806, 807] (by decide +kernel) (by decide +kernel)
set_option maxRecDepth 20000 in
theorem gL_law_X7_letter : GoodIn wsL_law (wsV RL 121 RX7 yX7_letter wsX7_letter) := goodIn_app (goodIn_of _ (by decide +kernel)) ggL_law_X7_letter
set_option maxRecDepth 20000 in
theorem ggL_law_L_pass : GoodIn wsL_law wsL_pass := goodIn_ca (goodIn_r _ [509, 118, 510, 511, 512, 2, 513, 124, 125, 20, 128, 129, 130, 514, 515, 516, 19, 517, 58, 518, 519, 520, 521, 57, 522, 321, 92, 322, 173, 174, 27, 175, 42, 523, 524, 525, 526, 54, 527, 328, 329, 53, 330, 82, 257, 528, 529, 72, 73, 74, 530, 531, 532, 533, 534, 409, 410, 411, 94, 535, 536, 537, 538, 93, 96, 98, 431, 539, 540, 541, 542, 89, 90, 543, 544, 545, 546, 61, 547, 452, 453, 454, 95, 548, 465, 466, 15, 467, 468, 135, 29, 332, 333, 172, 549, 550, 551, 552, 553, 554, 555, 556, 557, 558, 559, 560, 561, 60, 562, 563, 564, 565, 50, 566, 567, 568, 569, 49, 570, 68, 263, 176, 177, 571, 572, 573, 574, 575, 576, 577, 578, 579, 580, 581, 582, 583, 584, 286, 287, 288, 30, 31, 585, 265, 266, 267, 28, 268, 38, 39, 40, 32, 586, 369, 370, 371, 251, 79, 327, 587, 588, 589, 590, 591, 592, 593, 594, 595, 596, 597, 598, 81, 791, 792, 793, 816, 817, 818, 819, 820, 821, 822, 832, 833, 834, 835, 836, 837, 838, 839, 840, 841, 842, 843, 823, 826, 827, 828, 829, 830, 831, 808, 809, 810, 811, 812, 813, 814, 815, 824, 825] (by decide +kernel) (by decide +kernel)) (goodIn_sub (fun _ h => List.mem_append_left _ (List.mem_append_left _ (List.mem_append_right _ h))) (by decide +kernel))
set_option maxRecDepth 20000 in
theorem gL_law_L_pass : GoodIn wsL_law (va_wsS RL 122 yL_pass wsL_pass) := goodIn_app (goodIn_of _ (by decide +kernel)) ggL_law_L_pass
set_option maxRecDepth 20000 in
theorem ggL_law_X7_pass : GoodIn wsL_law wsX7_pass := goodIn_td 36 (goodIn_r _ [602, 141, 143, 144, 5, 145, 146, 147, 148, 149, 603, 604, 605, 606, 293, 350, 111, 607, 608, 609, 610, 112, 611, 113, 227, 612, 613, 39, 614, 142, 389, 390, 391, 392, 342, 343] (by decide +kernel) (by decide +kernel)) (goodIn_td 36 (goodIn_r _ [344, 345, 109, 298, 299, 300, 301, 108, 380, 381, 382, 383, 106, 384, 38, 40, 385, 386, 387, 388, 615, 616, 617, 618, 351, 352, 353, 354, 110, 619, 620, 621, 622, 477, 478, 479] (by decide +kernel) (by decide +kernel)) (goodIn_td 36 (goodIn_r _ [480, 623, 624, 625, 626, 627, 628, 629, 630, 481, 482, 483, 484, 210, 107, 485, 486, 487, 631, 632, 633, 634, 635, 636, 637, 638, 639, 640, 641, 642, 643, 644, 645, 646, 794, 795] (by decide +kernel) (by decide +kernel)) (goodIn_r _ [796, 797, 798, 799, 800, 801, 802, 803, 804, 805, 806, 807] (by decide +kernel) (by decide +kernel))))
set_option maxRecDepth 20000 in
theorem gL_law_X7_pass : GoodIn wsL_law (wsV RL 124 RX7 yX7_pass wsX7_pass) := goodIn_app (goodIn_of _ (by decide +kernel)) ggL_law_X7_pass
