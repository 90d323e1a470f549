set_option maxRecDepth 20000 in
theorem gL_law_X7_plan : GoodIn wsL_law (wsV RL 135 RX7 yX7_plan wsX7_plan) := goodIn_app (goodIn_of _ (by decide +kernel)) ggL_law_X7_plan
set_option maxRecDepth 20000 in
theorem ggL_law_L_player : GoodIn wsL_law wsL_player := goodIn_ca (goodIn_ca (goodIn_r _ [371, 172, 173, 372, 373, 374, 2, 375, 17, 376, 377, 378, 379, 181, 182, 183, 184, 185, 186, 187, 188, 15, 189, 72, 190, 191, 192, 193, 194, 380, 381, 382, 383, 11, 12, 384, 385, 386, 139, 67, 68, 69, 70, 71, 34, 73, 74, 75, 76, 77, 78, 79, 80, 81, 82, 83, 84, 33, 85, 86, 87, 88, 89, 90, 91, 92, 93, 94, 95, 96, 97, 98, 99, 100, 101, 102, 103, 104, 105, 106, 107, 108, 109, 110, 111, 112, 113, 114, 115, 116, 117, 118, 871, 872, 873, 874, 875, 876, 877, 926, 927, 928, 929, 930, 931, 907, 908, 909] (by decide +kernel) (by decide +kernel)) (goodIn_sub (fun _ h => List.mem_append_left _ (List.mem_append_left _ (List.mem_append_right _ h))) (by decide +kernel))) (goodIn_sub (fun _ h => List.mem_append_left _ (List.mem_append_right _ h)) (by decide +kernel))
set_option maxRecDepth 20000 in
theorem gL_law_L_player : GoodIn wsL_law (va_wsS RL 136 yL_player wsL_player) := goodIn_app (goodIn_of _ (by decide +kernel)) ggL_law_L_player
set_option maxRecDepth 20000 in
theorem ggL_law_X7_player : GoodIn wsL_law wsX7_player := goodIn_r _ [390, 391, 150, 151, 152, 153, 201, 202, 5, 203, 204, 205, 206, 207, 208, 878, 879, 880, 881, 882, 883, 884, 885, 886, 887, 888, 889, 890, 891, 892, 893, 894, 895, 896, 897, 898, 899, 900, 901, 902, 903, 904, 905, 906] (by decide +kernel) (by decide +kernel)
set_option maxRecDepth 20000 in
theorem gL_law_X7_player : GoodIn wsL_law (wsV RL 138 RX7 yX7_player wsX7_player) := goodIn_app (goodIn_of _ (by decide +kernel)) ggL_law_X7_player
set_option maxRecDepth 20000 in
theorem ggL_law_L_join : GoodIn wsL_law wsL_join := goodIn_ca (goodIn_ca (goodIn_r _ [394, 216, 173, 395, 396, 397, 2, 398, 399, 400, 401, 402, 403, 404, 405, 406, 407, 17, 408, 186, 187, 188, 15, 189, 72, 226, 227, 228, 229, 230, 231, 232, 233, 234, 235, 236, 237, 238, 239, 240, 241, 242, 243, 244, 245, 246, 34, 409, 410, 411, 412, 18, 413, 414, 415, 416, 29, 417, 130, 418, 419, 420, 421, 190, 191, 192, 193, 194, 422, 423, 424, 425, 426, 427, 428, 429, 378, 430, 384, 431, 432, 433, 434, 435, 11, 12, 49, 436, 437, 139, 67, 68, 69, 70, 71, 73, 74, 75, 76, 77, 78, 79, 80, 81, 82, 83, 84, 33, 85, 86, 87, 88, 89, 90, 91, 92, 93, 94, 95, 96, 97, 98, 99, 100, 101, 102, 103, 104, 105, 106, 107, 108, 109, 110, 111, 112, 113, 114, 115, 116, 117, 118, 926, 927, 928, 929, 930, 931, 914, 915, 916, 917, 918, 919, 920, 932, 933, 871, 872, 873, 874, 875, 876, 877, 907, 908, 909] (by decide +kernel) (by decide +kernel)) (goodIn_sub (fun _ h => List.mem_append_right _ h) (by decide +kernel))) (goodIn_sub (fun _ h => List.mem_append_left _ (List.mem_append_right _ h)) (by decide +kernel))
set_option maxRecDepth 20000 in
theorem gL_law_L_join : GoodIn wsL_law (va_wsS RL 139 yL_join wsL_join) := goodIn_app (goodIn_of _ (by decide +kernel)) ggL_law_L_join
set_option maxRecDepth 20000 in
theorem ggL_law_X7_join : GoodIn wsL_law wsX7_join := goodIn_r _ [441, 152, 153, 442, 154, 155, 158, 443, 444, 445, 5, 446, 391, 201, 202, 203, 447, 448, 449, 450, 451, 452, 453, 454, 455, 456, 457, 204, 205, 206, 207, 208, 878, 879, 880, 881, 882, 883, 884, 885, 886, 887, 888, 889, 890, 891, 892, 893, 894, 895, 896, 897, 898, 899, 900, 901, 902, 903, 904, 905, 906] (by decide +kernel) (by decide +kernel)
set_option maxRecDepth 20000 in
theorem gL_law_X7_join : GoodIn wsL_law (wsV RL 141 RX7 yX7_join wsX7_join) := goodIn_app (goodIn_of _ (by decide +kernel)) ggL_law_X7_join
set_option maxRecDepth 20000 in
theorem ggL_law_L_leave : GoodIn wsL_law wsL_leave := goodIn_ca (goodIn_ca (goodIn_r _ [460, 216, 173, 461, 462, 463, 2, 464, 400, 399, 465, 466, 404, 405, 406, 407, 17, 408, 186, 187, 188, 15, 189, 72, 226, 227, 228, 229, 230, 231, 232, 233, 234, 235, 236, 237, 238, 239, 240, 241, 242, 243, 244, 245, 246, 34, 409, 410, 411, 412, 18, 413, 414, 415, 416, 29, 417, 130, 418, 419, 420, 421, 190, 191, 192, 193, 194, 467, 468, 469, 470, 471, 472, 473, 474, 70, 71, 475, 116, 117, 118, 422, 423, 424, 425, 426, 914, 915, 916, 917, 918, 919, 920, 926, 927, 928, 929, 930, 931, 871, 872, 873, 874, 875, 876, 877, 907, 908, 909, 932, 933] (by decide +kernel) (by decide +kernel)) (goodIn_sub (fun _ h => List.mem_append_right _ h) (by decide +kernel))) (goodIn_sub (fun _ h => List.mem_append_left _ (List.mem_append_right _ h)) (by decide +kernel))
set_option maxRecDepth 20000 in
theorem gL_law_L_leave : GoodIn wsL_law (va_wsS RL 142 yL_leave wsL_leave) := goodIn_app (goodIn_of _ (by decide +kernel)) ggL_law_L_leave
set_option maxRecDepth 20000 in
theorem ggL_law_X7_leave : GoodIn wsL_law wsX7_leave := goodIn_r _ [479, 154, 155, 158, 152, 153, 442, 443, 444, 445, 5, 446, 391, 201, 202, 203, 447, 448, 449, 450, 451, 452, 453, 204, 205, 206, 207, 208, 878, 879, 880, 881, 882, 883, 884, 885, 886, 887, 888, 889, 890, 891, 892, 893, 894, 895, 896, 897, 898, 899, 900, 901, 902, 903, 904, 905, 906] (by decide +kernel) (by decide +kernel)
set_option maxRecDepth 20000 in
theorem gL_law_X7_leave : GoodIn wsL_law (wsV RL 144 RX7 yX7_leave wsX7_leave) := goodIn_app (goodIn_of _ (by decide +kernel)) ggL_law_X7_leave
set_option maxRecDepth 20000 in
theorem ggL_law_L_give : GoodIn wsL_law wsL_give := goodIn_ca (goodIn_ca (goodIn_r _ [482, 216, 173, 483, 484, 485, 2, 486, 487, 488, 404, 405, 406, 407, 17, 408, 186, 187, 188, 15, 189, 72, 226, 227, 228, 229, 230, 231, 232, 233, 234, 235, 236, 237, 238, 239, 240, 241, 242, 243, 244, 245, 246, 34, 221, 222, 223, 224, 16, 225, 190, 191, 192, 193, 194, 926, 927, 928, 929, 930, 931, 921, 922, 923, 924, 925, 871, 872, 873, 874, 875, 876, 877, 907, 908, 909] (by decide +kernel) (by decide +kernel)) (goodIn_sub (fun _ h => List.mem_append_right _ h) (by decide +kernel))) (goodIn_sub (fun _ h => List.mem_append_left _ (List.mem_append_right _ h)) (by decide +kernel))
set_option maxRecDepth 20000 in
theorem gL_law_L_give : GoodIn wsL_law (va_wsS RL 145 yL_give wsL_give) := goodIn_app (goodIn_of _ (by decide +kernel)) ggL_law_L_give
set_option maxRecDepth 20000 in
theorem ggL_law_X7_give : GoodIn wsL_law wsX7_give := goodIn_r _ [492, 151, 443, 444, 445, 5, 446, 391, 201, 202, 203, 267, 268, 269, 270, 200, 493, 494, 495, 496, 204, 205, 206, 207, 208, 878, 879, 880, 881, 882, 883, 884, 885, 886, 887, 888, 889, 890, 891, 892, 893, 894, 895, 896, 897, 898, 899, 900, 901, 902, 903, 904, 905, 906] (by decide +kernel) (by decide +kernel)
set_option maxRecDepth 20000 in
theorem gL_law_X7_give : GoodIn wsL_law (wsV RL 148 RX7 yX7_give wsX7_give) := goodIn_app (goodIn_of _ (by decide +kernel)) ggL_law_X7_give
set_option maxRecDepth 20000 in
theorem ggL_law_L_takeBack : GoodIn wsL_law wsL_takeBack := goodIn_ca (goodIn_ca (goodIn_r _ [499, 216, 173, 500, 501, 502, 2, 503, 193, 194, 487, 488, 180, 404, 405, 406, 407, 17, 408, 186, 187, 188, 15, 189, 72, 226, 227, 228, 229, 230, 231, 232, 233, 234, 235, 236, 237, 238, 239, 240, 241, 242, 243, 244, 245, 246, 34, 926, 927, 928, 929, 930, 931, 921, 922, 923, 924, 925, 871, 872, 873, 874, 875, 876, 877, 907, 908, 909] (by decide +kernel) (by decide +kernel)) (goodIn_sub (fun _ h => List.mem_append_left _ (List.mem_append_right _ h)) (by decide +kernel))) (goodIn_sub (fun _ h => List.mem_append_right _ h) (by decide +kernel))
set_option maxRecDepth 20000 in
theorem gL_law_L_takeBack : GoodIn wsL_law (va_wsS RL 149 yL_takeBack wsL_takeBack) := goodIn_app (goodIn_of _ (by decide +kernel)) ggL_law_L_takeBack
set_option maxRecDepth 20000 in
theorem ggL_law_X7_takeBack : GoodIn wsL_law wsX7_takeBack := goodIn_r _ [507, 151, 443, 444, 445, 5, 446, 391, 201, 202, 203, 204, 205, 206, 207, 208, 878, 879, 880, 881, 882, 883, 884, 885, 886, 887, 888, 889, 890, 891, 892, 893, 894, 895, 896, 897, 898, 899, 900, 901, 902, 903, 904, 905, 906] (by decide +kernel) (by decide +kernel)
set_option maxRecDepth 20000 in
theorem gL_law_X7_takeBack : GoodIn wsL_law (wsV RL 151 RX7 yX7_takeBack wsX7_takeBack) := goodIn_app (goodIn_of _ (by decide +kernel)) ggL_law_X7_takeBack
set_option maxRecDepth 20000 in
theorem ggL_law_L_ofPlayer : GoodIn wsL_law wsL_ofPlayer := goodIn_ca (goodIn_ca (goodIn_r _ [510, 216, 172, 511, 512, 513, 2, 514, 515, 399, 487, 180, 404, 405, 406, 407, 17, 408, 186, 187, 188, 15, 189, 72, 226, 227, 228, 229, 230, 231, 232, 233, 234, 235, 236, 237, 238, 239, 240, 241, 242, 243, 244, 245, 246, 34, 181, 182, 183, 184, 185, 926, 927, 928, 929, 930, 931, 921, 922, 923, 924, 925, 871, 872, 873, 874, 875, 876, 877, 907, 908, 909] (by decide +kernel) (by decide +kernel)) (goodIn_sub (fun _ h => List.mem_append_right _ h) (by decide +kernel))) (goodIn_sub (fun _ h => List.mem_append_left _ (List.mem_append_left _ (List.mem_append_right _ h))) (by decide +kernel))
set_option maxRecDepth 20000 in
theorem gL_law_L_ofPlayer : GoodIn wsL_law (va_wsS RL 152 yL_ofPlayer wsL_ofPlayer) := goodIn_app (goodIn_of _ (by decide +kernel)) ggL_law_L_ofPlayer
set_option maxRecDepth 20000 in
theorem ggL_law_X7_ofPlayer : GoodIn wsL_law wsX7_ofPlayer := goodIn_r _ [519, 150, 151, 443, 444, 445, 5, 446, 391, 201, 202, 203, 204, 205, 206, 207, 208, 454, 455, 456, 457, 450, 451, 452, 453, 154, 155, 878, 879, 880, 881, 882, 883, 884, 885, 886, 887, 888, 889, 890, 891, 892, 893, 894, 895, 896, 897, 898, 899, 900, 901, 902, 903, 904, 905, 906] (by decide +kernel) (by decide +kernel)
set_option maxRecDepth 20000 in
theorem gL_law_X7_ofPlayer : GoodIn wsL_law (wsV RL 154 RX7 yX7_ofPlayer wsX7_ofPlayer) := goodIn_app (goodIn_of _ (by decide +kernel)) ggL_law_X7_ofPlayer
set_option maxRecDepth 20000 in
theorem ggL_law_L_note : GoodIn wsL_law wsL_note := goodIn_ca (goodIn_ca (goodIn_ca (goodIn_r _ [522, 216, 172, 173, 523, 524, 525, 2, 526, 527, 528, 409, 410, 411, 412, 18, 413, 186, 187, 188, 15, 189, 72, 226, 227, 228, 229, 230, 231, 232, 233, 234, 235, 236, 237, 238, 239, 240, 241, 242, 243, 244, 245, 246, 34, 181, 182, 183, 184, 185, 190, 191, 192, 193, 194, 914, 915, 916, 917, 918, 919, 920, 871, 872, 873, 874, 875, 876, 877, 907, 908, 909] (by decide +kernel) (by decide +kernel)) (goodIn_sub (fun _ h => List.mem_append_right _ h) (by decide +kernel))) (goodIn_sub (fun _ h => List.mem_append_left _ (List.mem_append_left _ (List.mem_append_right _ h))) (by decide +kernel))) (goodIn_sub (fun _ h => List.mem_append_left _ (List.mem_append_right _ h)) (by decide +kernel))
set_option maxRecDepth 20000 in
theorem gL_law_L_note : GoodIn wsL_law (va_wsS RL 155 yL_note wsL_note) := goodIn_app (goodIn_of _ (by decide +kernel)) ggL_law_L_note
set_option maxRecDepth 20000 in
theorem ggL_law_X7_note : GoodIn wsL_law wsX7_note := goodIn_r _ [532, 156, 157, 447, 448, 5, 449, 201, 202, 203, 204, 205, 206, 207, 208, 878, 879, 880, 881, 882, 883, 884, 885, 886, 887, 888, 889, 890, 891, 892, 893, 894, 895, 896, 897, 898, 899, 900, 901, 902, 903, 904, 905, 906] (by decide +kernel) (by decide +kernel)
