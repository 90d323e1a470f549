set_option maxRecDepth 20000 in
theorem gL_law_X6_init : GoodIn wsL_law (wsX6_init) := ggL_law_X6_init
set_option maxRecDepth 20000 in
theorem ggL_law_X7_init : GoodIn wsL_law wsX7_init := goodIn_r _ [142, 143, 11, 12, 49, 144, 145, 63, 146, 147, 148, 149, 150, 151, 152, 153, 154, 155, 156, 157, 158, 159, 160, 161, 162, 163, 164, 165, 166, 167, 878, 879, 880, 881, 882, 883, 884, 885, 886, 887, 888, 889, 890, 891, 892, 893, 894, 895, 896, 897, 898, 899, 900, 901, 902, 903, 904, 905, 906] (by decide +kernel) (by decide +kernel)
set_option maxRecDepth 20000 in
theorem gL_law_X7_init : GoodIn wsL_law (wsX7_init) := ggL_law_X7_init
set_option maxRecDepth 20000 in
theorem ggL_law_L_pan : GoodIn wsL_law wsL_pan := goodIn_ca (goodIn_ca (goodIn_r _ [171, 172, 173, 174, 175, 176, 2, 177, 16, 178, 54, 55, 179, 180, 181, 182, 183, 184, 185, 186, 187, 188, 15, 189, 72, 190, 191, 192, 193, 194, 195, 58, 59, 60, 11, 12, 49, 61, 62, 63, 64, 65, 139, 67, 68, 69, 70, 71, 34, 73, 74, 75, 76, 77, 78, 79, 80, 81, 82, 83, 84, 33, 85, 86, 87, 88, 89, 90, 91, 92, 93, 94, 95, 96, 97, 98, 99, 100, 101, 102, 103, 104, 105, 106, 107, 108, 109, 110, 111, 112, 113, 114, 115, 116, 117, 118, 871, 872, 873, 874, 875, 876, 877, 921, 922, 923, 924, 925, 907, 908, 909] (by decide +kernel) (by decide +kernel)) (goodIn_sub (fun _ h => List.mem_append_left _ (List.mem_append_left _ (List.mem_append_right _ h))) (by decide +kernel))) (goodIn_sub (fun _ h => List.mem_append_left _ (List.mem_append_right _ h)) (by decide +kernel))
set_option maxRecDepth 20000 in
theorem gL_law_L_pan : GoodIn wsL_law (va_wsS RL 107 yL_pan wsL_pan) := goodIn_app (goodIn_of _ (by decide +kernel)) ggL_law_L_pan
set_option maxRecDepth 20000 in
theorem ggL_law_X7_pan : GoodIn wsL_law wsX7_pan := goodIn_r _ [199, 200, 144, 201, 202, 5, 203, 204, 205, 206, 207, 208, 878, 879, 880, 881, 882, 883, 884, 885, 886, 887, 888, 889, 890, 891, 892, 893, 894, 895, 896, 897, 898, 899, 900, 901, 902, 903, 904, 905, 906] (by decide +kernel) (by decide +kernel)
set_option maxRecDepth 20000 in
theorem gL_law_X7_pan : GoodIn wsL_law (wsV RL 112 RX7 yX7_pan wsX7_pan) := goodIn_app (goodIn_of _ (by decide +kernel)) ggL_law_X7_pan
set_option maxRecDepth 20000 in
theorem ggL_law_X7_thrown : GoodIn wsL_law wsX7_thrown := goodIn_r _ [212, 208, 878, 879, 880, 881, 882, 883, 884, 885, 886, 887, 888, 889, 890, 891, 892, 893, 894, 895, 896, 897, 898, 899, 900, 901, 902, 903, 904, 905, 906] (by decide +kernel) (by decide +kernel)
set_option maxRecDepth 20000 in
theorem gL_law_X7_thrown : GoodIn wsL_law (wsV RL 113 RX7 yX7_thrown wsX7_thrown) := goodIn_app (goodIn_of _ (by decide +kernel)) ggL_law_X7_thrown
set_option maxRecDepth 20000 in
theorem ggL_law_L_blow : GoodIn wsL_law wsL_blow := goodIn_ca (goodIn_ca (goodIn_ca (goodIn_r _ [215, 216, 172, 173, 217, 218, 219, 2, 220, 179, 221, 222, 223, 224, 16, 225, 186, 187, 188, 15, 189, 72, 226, 227, 228, 229, 230, 231, 232, 233, 234, 235, 236, 237, 238, 239, 240, 241, 242, 243, 244, 245, 246, 34, 181, 182, 183, 184, 185, 247, 248, 249, 55, 250, 64, 251, 252, 253, 254, 62, 190, 191, 192, 193, 194, 255, 256, 257, 258, 61, 921, 922, 923, 924, 925, 871, 872, 873, 874, 875, 876, 877, 907, 908, 909] (by decide +kernel) (by decide +kernel)) (goodIn_sub (fun _ h => List.mem_append_right _ h) (by decide +kernel))) (goodIn_sub (fun _ h => List.mem_append_left _ (List.mem_append_left _ (List.mem_append_right _ h))) (by decide +kernel))) (goodIn_sub (fun _ h => List.mem_append_left _ (List.mem_append_right _ h)) (by decide +kernel))
set_option maxRecDepth 20000 in
theorem gL_law_L_blow : GoodIn wsL_law (va_wsS RL 117 yL_blow wsL_blow) := goodIn_app (goodIn_of _ (by decide +kernel)) ggL_law_L_blow
set_option maxRecDepth 20000 in
theorem ggL_law_X7_blow : GoodIn wsL_law wsX7_blow := goodIn_r _ [262, 144, 147, 145, 148, 146, 149, 263, 264, 265, 5, 266, 267, 268, 269, 270, 200, 201, 202, 203, 271, 272, 273, 274, 275, 276, 277, 278, 204, 205, 206, 207, 208, 279, 280, 281, 282, 878, 879, 880, 881, 882, 883, 884, 885, 886, 887, 888, 889, 890, 891, 892, 893, 894, 895, 896, 897, 898, 899, 900, 901, 902, 903, 904, 905, 906] (by decide +kernel) (by decide +kernel)
set_option maxRecDepth 20000 in
theorem gL_law_X7_blow : GoodIn wsL_law (wsV RL 120 RX7 yX7_blow wsX7_blow) := goodIn_app (goodIn_of _ (by decide +kernel)) ggL_law_X7_blow
set_option maxRecDepth 20000 in
theorem ggL_law_L_heat : GoodIn wsL_law wsL_heat := goodIn_ca (goodIn_r _ [285, 172, 286, 287, 288, 2, 289, 290, 181, 182, 183, 184, 185, 871, 872, 873, 874, 875, 876, 877] (by decide +kernel) (by decide +kernel)) (goodIn_sub (fun _ h => List.mem_append_left _ (List.mem_append_left _ (List.mem_append_right _ h))) (by decide +kernel))
set_option maxRecDepth 20000 in
theorem gL_law_L_heat : GoodIn wsL_law (va_wsS RL 121 yL_heat wsL_heat) := goodIn_app (goodIn_of _ (by decide +kernel)) ggL_law_L_heat
set_option maxRecDepth 20000 in
theorem ggL_law_X7_heat : GoodIn wsL_law wsX7_heat := goodIn_r _ [294, 295, 201, 202, 5, 203, 204, 205, 206, 207, 208, 878, 879, 880, 881, 882, 883, 884, 885, 886, 887, 888, 889, 890, 891, 892, 893, 894, 895, 896, 897, 898, 899, 900, 901, 902, 903, 904, 905, 906] (by decide +kernel) (by decide +kernel)
set_option maxRecDepth 20000 in
theorem gL_law_X7_heat : GoodIn wsL_law (wsV RL 124 RX7 yX7_heat wsX7_heat) := goodIn_app (goodIn_of _ (by decide +kernel)) ggL_law_X7_heat
set_option maxRecDepth 20000 in
theorem ggL_law_L_field : GoodIn wsL_law wsL_field := goodIn_ca (goodIn_ca (goodIn_r _ [298, 216, 172, 299, 300, 301, 2, 302, 179, 290, 303, 304, 221, 222, 223, 224, 16, 225, 186, 187, 188, 15, 189, 72, 226, 227, 228, 229, 230, 231, 232, 233, 234, 235, 236, 237, 238, 239, 240, 241, 242, 243, 244, 245, 246, 34, 181, 182, 183, 184, 185, 305, 252, 253, 55, 254, 62, 921, 922, 923, 924, 925, 871, 872, 873, 874, 875, 876, 877, 907, 908, 909] (by decide +kernel) (by decide +kernel)) (goodIn_sub (fun _ h => List.mem_append_right _ h) (by decide +kernel))) (goodIn_sub (fun _ h => List.mem_append_left _ (List.mem_append_left _ (List.mem_append_right _ h))) (by decide +kernel))
set_option maxRecDepth 20000 in
theorem gL_law_L_field : GoodIn wsL_law (va_wsS RL 125 yL_field wsL_field) := goodIn_app (goodIn_of _ (by decide +kernel)) ggL_law_L_field
set_option maxRecDepth 20000 in
theorem ggL_law_X7_field : GoodIn wsL_law wsX7_field := goodIn_r _ [309, 144, 295, 145, 146, 263, 264, 265, 5, 266, 267, 268, 269, 270, 200, 201, 202, 203, 204, 205, 206, 207, 208, 878, 879, 880, 881, 882, 883, 884, 885, 886, 887, 888, 889, 890, 891, 892, 893, 894, 895, 896, 897, 898, 899, 900, 901, 902, 903, 904, 905, 906] (by decide +kernel) (by decide +kernel)
set_option maxRecDepth 20000 in
theorem gL_law_X7_field : GoodIn wsL_law (wsV RL 128 RX7 yX7_field wsX7_field) := goodIn_app (goodIn_of _ (by decide +kernel)) ggL_law_X7_field
set_option maxRecDepth 20000 in
theorem ggL_law_L_isInTune : GoodIn wsL_law wsL_isInTune := goodIn_ca (goodIn_r _ [312, 216, 313, 314, 315, 2, 316, 290, 221, 222, 223, 224, 16, 225, 186, 187, 188, 15, 189, 72, 226, 227, 228, 229, 230, 231, 232, 233, 234, 235, 236, 237, 238, 239, 240, 241, 242, 243, 244, 245, 246, 34, 317, 318, 319, 55, 320, 61, 321, 322, 87, 323, 251, 252, 253, 254, 62, 871, 872, 873, 874, 875, 876, 877, 907, 908, 909, 921, 922, 923, 924, 925] (by decide +kernel) (by decide +kernel)) (goodIn_sub (fun _ h => List.mem_append_right _ h) (by decide +kernel))
set_option maxRecDepth 20000 in
theorem gL_law_L_isInTune : GoodIn wsL_law (va_wsS RL 129 yL_isInTune wsL_isInTune) := goodIn_app (goodIn_of _ (by decide +kernel)) ggL_law_L_isInTune
set_option maxRecDepth 20000 in
theorem ggL_law_X7_isInTune : GoodIn wsL_law wsX7_isInTune := goodIn_r _ [327, 267, 268, 269, 5, 270, 200, 201, 202, 203, 204, 205, 206, 207, 208, 328, 329, 330, 331, 271, 272, 273, 274, 147, 144, 148, 145, 149, 146, 332, 333, 334, 335, 295, 878, 879, 880, 881, 882, 883, 884, 885, 886, 887, 888, 889, 890, 891, 892, 893, 894, 895, 896, 897, 898, 899, 900, 901, 902, 903, 904, 905, 906] (by decide +kernel) (by decide +kernel)
set_option maxRecDepth 20000 in
theorem gL_law_X7_isInTune : GoodIn wsL_law (wsV RL 131 RX7 yX7_isInTune wsX7_isInTune) := goodIn_app (goodIn_of _ (by decide +kernel)) ggL_law_X7_isInTune
set_option maxRecDepth 20000 in
theorem ggL_law_L_plan : GoodIn wsL_law wsL_plan := goodIn_ca (goodIn_ca (goodIn_r _ [338, 216, 172, 339, 340, 341, 2, 342, 22, 290, 343, 221, 222, 223, 224, 16, 225, 186, 187, 188, 15, 189, 72, 226, 227, 228, 229, 230, 231, 232, 233, 234, 235, 236, 237, 238, 239, 240, 241, 242, 243, 244, 245, 246, 34, 181, 182, 183, 184, 185, 344, 345, 346, 21, 347, 52, 50, 348, 349, 350, 351, 352, 318, 319, 55, 320, 61, 321, 322, 87, 323, 251, 252, 253, 254, 62, 353, 354, 355, 248, 249, 250, 64, 356, 357, 358, 359, 360, 256, 257, 258, 871, 872, 873, 874, 875, 876, 877, 910, 911, 907, 908, 909, 921, 922, 923, 924, 925] (by decide +kernel) (by decide +kernel)) (goodIn_sub (fun _ h => List.mem_append_right _ h) (by decide +kernel))) (goodIn_sub (fun _ h => List.mem_append_left _ (List.mem_append_left _ (List.mem_append_right _ h))) (by decide +kernel))
set_option maxRecDepth 20000 in
theorem gL_law_L_plan : GoodIn wsL_law (va_wsS RL 132 yL_plan wsL_plan) := goodIn_app (goodIn_of _ (by decide +kernel)) ggL_law_L_plan
set_option maxRecDepth 20000 in
theorem ggL_law_X7_plan : GoodIn wsL_law wsX7_plan := goodIn_r _ [364, 267, 268, 269, 5, 270, 200, 201, 202, 203, 204, 205, 206, 207, 208, 365, 366, 367, 368, 271, 272, 273, 274, 147, 144, 148, 145, 149, 146, 275, 276, 277, 278, 279, 280, 281, 282, 332, 333, 334, 335, 295, 878, 879, 880, 881, 882, 883, 884, 885, 886, 887, 888, 889, 890, 891, 892, 893, 894, 895, 896, 897, 898, 899, 900, 901, 902, 903, 904, 905, 906] (by decide +kernel) (by decide +kernel)
