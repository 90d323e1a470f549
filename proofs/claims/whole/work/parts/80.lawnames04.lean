set_option maxRecDepth 20000 in
theorem gL_law_X7_note : GoodIn wsL_law (wsV RL 157 RX7 yX7_note wsX7_note) := goodIn_app (goodIn_of _ (by decide +kernel)) ggL_law_X7_note
set_option maxRecDepth 20000 in
theorem ggL_law_L_change : GoodIn wsL_law wsL_change := goodIn_ca (goodIn_ca (goodIn_r _ [535, 216, 172, 536, 537, 538, 2, 539, 527, 528, 409, 410, 411, 412, 18, 413, 186, 187, 188, 15, 189, 72, 226, 227, 228, 229, 230, 231, 232, 233, 234, 235, 236, 237, 238, 239, 240, 241, 242, 243, 244, 245, 246, 34, 181, 182, 183, 184, 185, 540, 541, 542, 29, 543, 130, 418, 544, 420, 421, 914, 915, 916, 917, 918, 919, 920, 871, 872, 873, 874, 875, 876, 877, 907, 908, 909, 932, 933] (by decide +kernel) (by decide +kernel)) (goodIn_sub (fun _ h => List.mem_append_right _ h) (by decide +kernel))) (goodIn_sub (fun _ h => List.mem_append_left _ (List.mem_append_left _ (List.mem_append_right _ h))) (by decide +kernel))
set_option maxRecDepth 20000 in
theorem gL_law_L_change : GoodIn wsL_law (va_wsS RL 158 yL_change wsL_change) := goodIn_app (goodIn_of _ (by decide +kernel)) ggL_law_L_change
set_option maxRecDepth 20000 in
theorem ggL_law_X7_change : GoodIn wsL_law wsX7_change := goodIn_r _ [548, 156, 157, 154, 158, 447, 448, 5, 449, 201, 202, 203, 204, 205, 206, 207, 208, 549, 550, 551, 552, 878, 879, 880, 881, 882, 883, 884, 885, 886, 887, 888, 889, 890, 891, 892, 893, 894, 895, 896, 897, 898, 899, 900, 901, 902, 903, 904, 905, 906] (by decide +kernel) (by decide +kernel)
set_option maxRecDepth 20000 in
theorem gL_law_X7_change : GoodIn wsL_law (wsV RL 160 RX7 yX7_change wsX7_change) := goodIn_app (goodIn_of _ (by decide +kernel)) ggL_law_X7_change
set_option maxRecDepth 20000 in
theorem ggL_law_L_tell : GoodIn wsL_law wsL_tell := goodIn_ca (goodIn_r _ [555, 216, 556, 557, 558, 2, 559, 560, 409, 410, 411, 412, 18, 413, 186, 187, 188, 15, 189, 72, 226, 227, 228, 229, 230, 231, 232, 233, 234, 235, 236, 237, 238, 239, 240, 241, 242, 243, 244, 245, 246, 34, 561, 562, 563, 400, 564, 565, 566, 567, 568, 569, 570, 29, 571, 572, 932, 933, 871, 872, 873, 874, 875, 876, 877, 907, 908, 909, 914, 915, 916, 917, 918, 919, 920] (by decide +kernel) (by decide +kernel)) (goodIn_sub (fun _ h => List.mem_append_right _ h) (by decide +kernel))
set_option maxRecDepth 20000 in
theorem gL_law_L_tell : GoodIn wsL_law (va_wsS RL 161 yL_tell wsL_tell) := goodIn_app (goodIn_of _ (by decide +kernel)) ggL_law_L_tell
set_option maxRecDepth 20000 in
theorem ggL_law_X7_tell : GoodIn wsL_law wsX7_tell := goodIn_r _ [576, 158, 577, 578, 579, 5, 580, 154, 447, 448, 449, 201, 202, 203, 581, 582, 583, 584, 156, 204, 205, 206, 207, 208, 549, 550, 551, 552, 878, 879, 880, 881, 882, 883, 884, 885, 886, 887, 888, 889, 890, 891, 892, 893, 894, 895, 896, 897, 898, 899, 900, 901, 902, 903, 904, 905, 906] (by decide +kernel) (by decide +kernel)
set_option maxRecDepth 20000 in
theorem gL_law_X7_tell : GoodIn wsL_law (wsV RL 163 RX7 yX7_tell wsX7_tell) := goodIn_app (goodIn_of _ (by decide +kernel)) ggL_law_X7_tell
set_option maxRecDepth 20000 in
theorem ggL_law_L_drill : GoodIn wsL_law wsL_drill := goodIn_ca (goodIn_ca (goodIn_r _ [587, 216, 173, 588, 589, 590, 2, 591, 400, 592, 426, 409, 410, 411, 412, 18, 413, 186, 187, 188, 15, 189, 72, 226, 227, 228, 229, 230, 231, 232, 233, 234, 235, 236, 237, 238, 239, 240, 241, 242, 243, 244, 245, 246, 34, 565, 566, 567, 568, 569, 570, 29, 571, 572, 593, 594, 595, 596, 190, 191, 192, 193, 194, 597, 598, 599, 600, 130, 418, 544, 420, 421, 601, 602, 603, 403, 604, 436, 437, 605, 606, 607, 608, 609, 419, 610, 611, 612, 613, 55, 614, 61, 615, 616, 617, 618, 914, 915, 916, 917, 918, 919, 920, 871, 872, 873, 874, 875, 876, 877, 907, 908, 909, 932, 933, 926, 927, 928, 929, 930, 931, 921, 922, 923, 924, 925] (by decide +kernel) (by decide +kernel)) (goodIn_sub (fun _ h => List.mem_append_right _ h) (by decide +kernel))) (goodIn_sub (fun _ h => List.mem_append_left _ (List.mem_append_right _ h)) (by decide +kernel))
set_option maxRecDepth 20000 in
theorem gL_law_L_drill : GoodIn wsL_law (va_wsS RL 164 yL_drill wsL_drill) := goodIn_app (goodIn_of _ (by decide +kernel)) ggL_law_L_drill
set_option maxRecDepth 20000 in
theorem ggL_law_X7_drill : GoodIn wsL_law wsX7_drill := goodIn_r _ [622, 154, 160, 442, 159, 158, 151, 155, 144, 581, 582, 583, 5, 584, 156, 447, 448, 449, 201, 202, 203, 204, 205, 206, 207, 208, 623, 624, 625, 626, 627, 628, 629, 630, 577, 578, 579, 580, 549, 550, 551, 552, 454, 455, 456, 457, 450, 451, 452, 453, 878, 879, 880, 881, 882, 883, 884, 885, 886, 887, 888, 889, 890, 891, 892, 893, 894, 895, 896, 897, 898, 899, 900, 901, 902, 903, 904, 905, 906] (by decide +kernel) (by decide +kernel)
set_option maxRecDepth 20000 in
theorem gL_law_X7_drill : GoodIn wsL_law (wsV RL 166 RX7 yX7_drill wsX7_drill) := goodIn_app (goodIn_of _ (by decide +kernel)) ggL_law_X7_drill
set_option maxRecDepth 20000 in
theorem ggL_law_L_pass : GoodIn wsL_law wsL_pass := goodIn_ca (goodIn_ca (goodIn_r _ [633, 172, 173, 634, 635, 636, 2, 637, 426, 181, 182, 183, 184, 185, 190, 191, 192, 193, 194, 871, 872, 873, 874, 875, 876, 877] (by decide +kernel) (by decide +kernel)) (goodIn_sub (fun _ h => List.mem_append_left _ (List.mem_append_left _ (List.mem_append_right _ h))) (by decide +kernel))) (goodIn_sub (fun _ h => List.mem_append_left _ (List.mem_append_right _ h)) (by decide +kernel))
set_option maxRecDepth 20000 in
theorem gL_law_L_pass : GoodIn wsL_law (va_wsS RL 167 yL_pass wsL_pass) := goodIn_app (goodIn_of _ (by decide +kernel)) ggL_law_L_pass
set_option maxRecDepth 20000 in
theorem ggL_law_X7_pass : GoodIn wsL_law wsX7_pass := goodIn_r _ [641, 442, 201, 202, 5, 203, 204, 205, 206, 207, 208, 878, 879, 880, 881, 882, 883, 884, 885, 886, 887, 888, 889, 890, 891, 892, 893, 894, 895, 896, 897, 898, 899, 900, 901, 902, 903, 904, 905, 906] (by decide +kernel) (by decide +kernel)
set_option maxRecDepth 20000 in
theorem gL_law_X7_pass : GoodIn wsL_law (wsV RL 169 RX7 yX7_pass wsX7_pass) := goodIn_app (goodIn_of _ (by decide +kernel)) ggL_law_X7_pass
set_option maxRecDepth 20000 in
theorem ggL_law_L_seat : GoodIn wsL_law wsL_seat := goodIn_ca (goodIn_r _ [644, 216, 645, 646, 647, 2, 648, 649, 379, 409, 410, 411, 412, 18, 413, 186, 187, 188, 15, 189, 72, 226, 227, 228, 229, 230, 231, 232, 233, 234, 235, 236, 237, 238, 239, 240, 241, 242, 243, 244, 245, 246, 34, 561, 562, 563, 400, 564, 932, 933, 926, 927, 928, 929, 930, 931, 871, 872, 873, 874, 875, 876, 877, 907, 908, 909, 914, 915, 916, 917, 918, 919, 920] (by decide +kernel) (by decide +kernel)) (goodIn_sub (fun _ h => List.mem_append_right _ h) (by decide +kernel))
set_option maxRecDepth 20000 in
theorem gL_law_L_seat : GoodIn wsL_law (va_wsS RL 170 yL_seat wsL_seat) := goodIn_app (goodIn_of _ (by decide +kernel)) ggL_law_L_seat
set_option maxRecDepth 20000 in
theorem ggL_law_X7_seat : GoodIn wsL_law wsX7_seat := goodIn_r _ [653, 155, 577, 578, 579, 5, 580, 154, 447, 448, 449, 201, 202, 203, 204, 205, 206, 207, 208, 878, 879, 880, 881, 882, 883, 884, 885, 886, 887, 888, 889, 890, 891, 892, 893, 894, 895, 896, 897, 898, 899, 900, 901, 902, 903, 904, 905, 906] (by decide +kernel) (by decide +kernel)
set_option maxRecDepth 20000 in
theorem gL_law_X7_seat : GoodIn wsL_law (wsV RL 172 RX7 yX7_seat wsX7_seat) := goodIn_app (goodIn_of _ (by decide +kernel)) ggL_law_X7_seat
set_option maxRecDepth 20000 in
theorem ggL_law_L_knows : GoodIn wsL_law wsL_knows := goodIn_ca (goodIn_r _ [656, 216, 657, 658, 659, 2, 660, 560, 409, 410, 411, 412, 18, 413, 186, 187, 188, 15, 189, 72, 226, 227, 228, 229, 230, 231, 232, 233, 234, 235, 236, 237, 238, 239, 240, 241, 242, 243, 244, 245, 246, 34, 561, 562, 563, 400, 564, 565, 566, 567, 568, 569, 570, 29, 571, 572, 932, 933, 871, 872, 873, 874, 875, 876, 877, 907, 908, 909, 914, 915, 916, 917, 918, 919, 920] (by decide +kernel) (by decide +kernel)) (goodIn_sub (fun _ h => List.mem_append_right _ h) (by decide +kernel))
set_option maxRecDepth 20000 in
theorem gL_law_L_knows : GoodIn wsL_law (va_wsS RL 173 yL_knows wsL_knows) := goodIn_app (goodIn_of _ (by decide +kernel)) ggL_law_L_knows
set_option maxRecDepth 20000 in
theorem ggL_law_X7_knows : GoodIn wsL_law wsX7_knows := goodIn_r _ [664, 158, 577, 578, 579, 5, 580, 154, 447, 448, 449, 201, 202, 203, 581, 582, 583, 584, 156, 204, 205, 206, 207, 208, 549, 550, 551, 552, 878, 879, 880, 881, 882, 883, 884, 885, 886, 887, 888, 889, 890, 891, 892, 893, 894, 895, 896, 897, 898, 899, 900, 901, 902, 903, 904, 905, 906] (by decide +kernel) (by decide +kernel)
set_option maxRecDepth 20000 in
theorem gL_law_X7_knows : GoodIn wsL_law (wsV RL 175 RX7 yX7_knows wsX7_knows) := goodIn_app (goodIn_of _ (by decide +kernel)) ggL_law_X7_knows
set_option maxRecDepth 20000 in
theorem ggL_law_L_ofBand : GoodIn wsL_law wsL_ofBand := goodIn_ca (goodIn_ca (goodIn_r _ [667, 216, 172, 668, 669, 670, 2, 671, 400, 527, 672, 592, 426, 409, 410, 411, 412, 18, 413, 186, 187, 188, 15, 189, 72, 226, 227, 228, 229, 230, 231, 232, 233, 234, 235, 236, 237, 238, 239, 240, 241, 242, 243, 244, 245, 246, 34, 181, 182, 183, 184, 185, 568, 569, 570, 29, 571, 572, 914, 915, 916, 917, 918, 919, 920, 871, 872, 873, 874, 875, 876, 877, 907, 908, 909] (by decide +kernel) (by decide +kernel)) (goodIn_sub (fun _ h => List.mem_append_right _ h) (by decide +kernel))) (goodIn_sub (fun _ h => List.mem_append_left _ (List.mem_append_left _ (List.mem_append_right _ h))) (by decide +kernel))
set_option maxRecDepth 20000 in
theorem gL_law_L_ofBand : GoodIn wsL_law (va_wsS RL 176 yL_ofBand wsL_ofBand) := goodIn_app (goodIn_of _ (by decide +kernel)) ggL_law_L_ofBand
set_option maxRecDepth 20000 in
theorem ggL_law_X7_ofBand : GoodIn wsL_law wsX7_ofBand := goodIn_r _ [676, 154, 156, 161, 162, 160, 442, 447, 448, 5, 449, 201, 202, 203, 204, 205, 206, 207, 208, 878, 879, 880, 881, 882, 883, 884, 885, 886, 887, 888, 889, 890, 891, 892, 893, 894, 895, 896, 897, 898, 899, 900, 901, 902, 903, 904, 905, 906] (by decide +kernel) (by decide +kernel)
