set_option maxRecDepth 20000 in
theorem ggL_law_X11_bucket : GoodIn wsL_law wsX11_bucket := goodIn_r _ [313, 102, 101, 238, 239, 240, 5, 241, 234, 235, 236, 237, 246, 247, 248, 249, 250, 854, 855, 856, 857, 858, 859, 860, 861, 862, 863, 864, 865, 866, 867, 868, 869, 870, 871, 872, 873, 874, 875, 876, 877, 878, 879, 880, 881] (by decide +kernel) (by decide +kernel)
set_option maxRecDepth 20000 in
theorem gL_law_X11_bucket : GoodIn wsL_law (wsV RL 99 RX11 yX11_bucket wsX11_bucket) := goodIn_app (goodIn_of _ (by decide +kernel)) ggL_law_X11_bucket
set_option maxRecDepth 20000 in
theorem ggL_law_L_lookup : GoodIn wsL_law wsL_lookup := goodIn_ca (goodIn_ca (goodIn_ca (goodIn_r _ [316, 124, 123, 125, 317, 318, 319, 2, 320, 135, 136, 23, 137, 138, 139, 140, 141, 142, 22, 143, 144, 145, 15, 146, 147, 132, 133, 134, 156, 157, 158, 159, 130, 131, 160, 161, 162, 163, 50, 164, 176, 177, 178, 18, 179, 180, 58, 59, 181, 182, 183, 184, 60, 62, 63, 61, 185, 186, 187, 27, 188, 189, 190, 191, 192, 193, 52, 48, 47, 194, 195, 196, 197, 198, 68, 67, 199, 200, 201, 202, 203, 204, 205, 206, 207, 208, 209, 210, 211, 212, 213, 214, 215, 216, 217, 218, 219, 220, 221, 222, 223, 224, 225, 170, 171, 172, 173, 174, 175, 226, 227, 228, 229, 321, 322, 323, 324, 325, 326, 327, 328, 329, 844, 845, 846, 847, 848, 849, 850, 851, 852, 853, 882, 883, 884, 885, 886, 887, 888, 889, 890, 891, 892, 893, 895, 896, 897] (by decide +kernel) (by decide +kernel)) (goodIn_sub (fun _ h => List.mem_append_left _ (List.mem_append_right _ h)) (by decide +kernel))) (goodIn_sub (fun _ h => List.mem_append_right _ h) (by decide +kernel))) (goodIn_sub (fun _ h => List.mem_append_left _ (List.mem_append_left _ (List.mem_append_right _ h))) (by decide +kernel))
set_option maxRecDepth 20000 in
theorem gL_law_L_lookup : GoodIn wsL_law (va_wsS RL 100 yL_lookup wsL_lookup) := goodIn_app (goodIn_of _ (by decide +kernel)) ggL_law_L_lookup
set_option maxRecDepth 20000 in
theorem ggL_law_X11_lookup : GoodIn wsL_law wsX11_lookup := goodIn_r _ [333, 100, 238, 239, 240, 5, 241, 234, 235, 236, 237, 246, 247, 248, 249, 250, 258, 259, 260, 261, 262, 103, 104, 105, 98, 106, 263, 264, 265, 266, 102, 101, 267, 268, 269, 270, 271, 272, 273, 274, 99, 251, 252, 253, 254, 255, 256, 257, 275, 276, 277, 278, 279, 107, 334, 335, 336, 337, 854, 855, 856, 857, 858, 859, 860, 861, 862, 863, 864, 865, 866, 867, 868, 869, 870, 871, 872, 873, 874, 875, 876, 877, 878, 879, 880, 881] (by decide +kernel) (by decide +kernel)
set_option maxRecDepth 20000 in
theorem gL_law_X11_lookup : GoodIn wsL_law (wsV RL 102 RX11 yX11_lookup wsX11_lookup) := goodIn_app (goodIn_of _ (by decide +kernel)) ggL_law_X11_lookup
set_option maxRecDepth 20000 in
theorem ggL_law_X10_asked : GoodIn wsL_law wsX10_asked := goodIn_r _ [341, 23, 342, 343, 344, 18, 345, 180, 844, 845, 846, 847, 848, 849, 850, 851, 852, 853, 887, 888, 889, 890, 891, 892, 893] (by decide +kernel) (by decide +kernel)
set_option maxRecDepth 20000 in
theorem gL_law_X10_asked : GoodIn wsL_law (wsV RL 103 RX10 yX10_asked wsX10_asked) := goodIn_app (goodIn_of _ (by decide +kernel)) ggL_law_X10_asked
