set_option maxRecDepth 20000 in
theorem ggL_law_X10_init : GoodIn wsL_law wsX10_init := goodIn_r _ [9, 10, 11, 12, 13, 14, 15, 16, 17, 18, 19, 20, 21, 22, 23, 24, 25, 26, 27, 28, 29, 30, 31, 32, 33, 34, 35, 36, 37, 38, 39, 40, 41, 42, 43, 44, 45, 46, 47, 48, 49, 50, 51, 52, 53, 54, 55, 56, 57, 58, 59, 60, 61, 62, 63, 64, 65, 66, 67, 68, 69, 70, 71, 72, 73, 74, 75, 76, 77, 78, 79, 80, 81, 82, 83, 84, 85, 86, 87, 88, 89, 90, 91, 92, 93, 882, 883, 884, 885, 886, 887, 888, 889, 890, 891, 892, 893, 894, 844, 845, 846, 847, 848, 849, 850, 851, 852, 853, 895, 896, 897, 898, 899, 900, 901, 902, 903, 904, 905] (by decide +kernel) (by decide +kernel)
set_option maxRecDepth 20000 in
theorem gL_law_X10_init : GoodIn wsL_law (wsX10_init) := ggL_law_X10_init
set_option maxRecDepth 20000 in
theorem ggL_law_X11_init : GoodIn wsL_law wsX11_init := goodIn_r _ [96, 97, 11, 12, 46, 98, 99, 49, 100, 101, 102, 103, 104, 105, 106, 107, 108, 109, 110, 111, 112, 113, 114, 115, 116, 117, 118, 854, 855, 856, 857, 858, 859, 860, 861, 862, 863, 864, 865, 866, 867, 868, 869, 870, 871, 872, 873, 874, 875, 876, 877, 878, 879, 880, 881] (by decide +kernel) (by decide +kernel)
set_option maxRecDepth 20000 in
theorem gL_law_X11_init : GoodIn wsL_law (wsX11_init) := ggL_law_X11_init
set_option maxRecDepth 20000 in
theorem ggL_law_L_peer : GoodIn wsL_law wsL_peer := goodIn_ca (goodIn_ca (goodIn_ca (goodIn_r _ [122, 123, 124, 125, 126, 127, 128, 2, 129, 130, 131, 22, 23, 132, 133, 134, 135, 136, 137, 138, 139, 140, 141, 142, 143, 144, 145, 15, 146, 147, 148, 149, 150, 151, 152, 153, 154, 155, 47, 156, 157, 158, 159, 160, 161, 162, 163, 50, 164, 165, 166, 167, 168, 48, 52, 169, 170, 171, 172, 173, 174, 175, 176, 177, 178, 18, 179, 180, 58, 59, 181, 182, 183, 184, 60, 62, 63, 61, 185, 186, 187, 27, 188, 189, 190, 191, 192, 193, 194, 195, 196, 197, 198, 68, 67, 199, 200, 201, 202, 203, 204, 205, 206, 207, 208, 209, 210, 211, 212, 213, 214, 215, 216, 217, 218, 219, 220, 221, 222, 223, 224, 225, 226, 227, 228, 229, 844, 845, 846, 847, 848, 849, 850, 851, 852, 853, 882, 883, 884, 885, 886, 887, 888, 889, 890, 891, 892, 893, 895, 896, 897] (by decide +kernel) (by decide +kernel)) (goodIn_sub (fun _ h => List.mem_append_left _ (List.mem_append_left _ (List.mem_append_right _ h))) (by decide +kernel))) (goodIn_sub (fun _ h => List.mem_append_left _ (List.mem_append_right _ h)) (by decide +kernel))) (goodIn_sub (fun _ h => List.mem_append_right _ h) (by decide +kernel))
set_option maxRecDepth 20000 in
theorem gL_law_L_peer : GoodIn wsL_law (va_wsS RL 84 yL_peer wsL_peer) := goodIn_app (goodIn_of _ (by decide +kernel)) ggL_law_L_peer
set_option maxRecDepth 20000 in
theorem ggL_law_X11_peer : GoodIn wsL_law wsX11_peer := goodIn_r _ [233, 234, 100, 98, 99, 235, 236, 5, 237, 238, 239, 240, 241, 242, 243, 244, 245, 246, 247, 248, 249, 250, 251, 252, 253, 254, 102, 101, 255, 256, 257, 258, 259, 260, 261, 262, 103, 104, 105, 106, 263, 264, 265, 266, 267, 268, 269, 270, 271, 272, 273, 274, 275, 276, 277, 278, 279, 107, 854, 855, 856, 857, 858, 859, 860, 861, 862, 863, 864, 865, 866, 867, 868, 869, 870, 871, 872, 873, 874, 875, 876, 877, 878, 879, 880, 881] (by decide +kernel) (by decide +kernel)
set_option maxRecDepth 20000 in
theorem gL_law_X11_peer : GoodIn wsL_law (wsV RL 89 RX11 yX11_peer wsX11_peer) := goodIn_app (goodIn_of _ (by decide +kernel)) ggL_law_X11_peer
set_option maxRecDepth 20000 in
theorem ggL_law_X11_thrown : GoodIn wsL_law wsX11_thrown := goodIn_r _ [283, 250, 854, 855, 856, 857, 858, 859, 860, 861, 862, 863, 864, 865, 866, 867, 868, 869, 870, 871, 872, 873, 874, 875, 876, 877, 878, 879, 880, 881] (by decide +kernel) (by decide +kernel)
set_option maxRecDepth 20000 in
theorem gL_law_X11_thrown : GoodIn wsL_law (wsV RL 90 RX11 yX11_thrown wsX11_thrown) := goodIn_app (goodIn_of _ (by decide +kernel)) ggL_law_X11_thrown
set_option maxRecDepth 20000 in
theorem ggL_law_L_turn : GoodIn wsL_law wsL_turn := goodIn_ca (goodIn_r _ [286, 124, 287, 288, 289, 2, 290, 22, 137, 138, 139, 140, 141, 142, 143, 144, 145, 15, 146, 147, 160, 161, 162, 163, 50, 164, 291, 292, 293, 294, 844, 845, 846, 847, 848, 849, 850, 851, 852, 853, 882, 883, 884, 885, 886] (by decide +kernel) (by decide +kernel)) (goodIn_sub (fun _ h => List.mem_append_right _ h) (by decide +kernel))
set_option maxRecDepth 20000 in
theorem gL_law_L_turn : GoodIn wsL_law (va_wsS RL 93 yL_turn wsL_turn) := goodIn_app (goodIn_of _ (by decide +kernel)) ggL_law_L_turn
set_option maxRecDepth 20000 in
theorem ggL_law_X11_turn : GoodIn wsL_law wsX11_turn := goodIn_r _ [298, 100, 238, 239, 240, 5, 241, 234, 235, 236, 237, 246, 247, 248, 249, 250, 854, 855, 856, 857, 858, 859, 860, 861, 862, 863, 864, 865, 866, 867, 868, 869, 870, 871, 872, 873, 874, 875, 876, 877, 878, 879, 880, 881] (by decide +kernel) (by decide +kernel)
set_option maxRecDepth 20000 in
theorem gL_law_X11_turn : GoodIn wsL_law (wsV RL 96 RX11 yX11_turn wsX11_turn) := goodIn_app (goodIn_of _ (by decide +kernel)) ggL_law_X11_turn
set_option maxRecDepth 20000 in
theorem ggL_law_L_bucket : GoodIn wsL_law wsL_bucket := goodIn_ca (goodIn_ca (goodIn_r _ [301, 124, 123, 302, 303, 304, 2, 305, 141, 142, 22, 137, 138, 139, 140, 143, 144, 145, 15, 146, 147, 132, 133, 134, 135, 136, 306, 307, 308, 309, 52, 164, 844, 845, 846, 847, 848, 849, 850, 851, 852, 853, 882, 883, 884, 885, 886] (by decide +kernel) (by decide +kernel)) (goodIn_sub (fun _ h => List.mem_append_right _ h) (by decide +kernel))) (goodIn_sub (fun _ h => List.mem_append_left _ (List.mem_append_right _ h)) (by decide +kernel))
set_option maxRecDepth 20000 in
theorem gL_law_L_bucket : GoodIn wsL_law (va_wsS RL 97 yL_bucket wsL_bucket) := goodIn_app (goodIn_of _ (by decide +kernel)) ggL_law_L_bucket
set_option maxRecDepth 20000 in
theorem ggL_law_X11_bucket : GoodIn wsL_law wsX11_bucket := goodIn_r _ [313, 102, 101, 238, 239, 240, 5, 241, 234, 235, 236, 237, 246, 247, 248, 249, 250, 854, 855, 856, 857, 858, 859, 860, 861, 862, 863, 864, 865, 866, 867, 868, 869, 870, 871, 872, 873, 874, 875, 876, 877, 878, 879, 880, 881] (by decide +kernel) (by decide +kernel)
set_option maxRecDepth 20000 in
theorem gL_law_X11_bucket : GoodIn wsL_law (wsV RL 99 RX11 yX11_bucket wsX11_bucket) := goodIn_app (goodIn_of _ (by decide +kernel)) ggL_law_X11_bucket
set_option maxRecDepth 20000 in
theorem ggL_law_L_lookup : GoodIn wsL_law wsL_lookup := goodIn_ca (goodIn_ca (goodIn_ca (goodIn_r _ [316, 124, 123, 125, 317, 318, 319, 2, 320, 135, 136, 23, 137, 138, 139, 140, 141, 142, 22, 143, 144, 145, 15, 146, 147, 132, 133, 134, 156, 157, 158, 159, 130, 131, 160, 161, 162, 163, 50, 164, 176, 177, 178, 18, 179, 180, 58, 59, 181, 182, 183, 184, 60, 62, 63, 61, 185, 186, 187, 27, 188, 189, 190, 191, 192, 193, 52, 48, 47, 194, 195, 196, 197, 198, 68, 67, 199, 200, 201, 202, 203, 204, 205, 206, 207, 208, 209, 210, 211, 212, 213, 214, 215, 216, 217, 218, 219, 220, 221, 222, 223, 224, 225, 170, 171, 172, 173, 174, 175, 226, 227, 228, 229, 321, 322, 323, 324, 325, 326, 327, 328, 329, 844, 845, 846, 847, 848, 849, 850, 851, 852, 853, 882, 883, 884, 885, 886, 887, 888, 889, 890, 891, 892, 893, 895, 896, 897] (by decide +kernel) (by decide +kernel)) (goodIn_sub (fun _ h => List.mem_append_left _ (List.mem_append_right _ h)) (by decide +kernel))) (goodIn_sub (fun _ h => List.mem_append_right _ h) (by decide +kernel))) (goodIn_sub (fun _ h => List.mem_append_left _ (List.mem_append_left _ (List.mem_append_right _ h))) (by decide +kernel))
set_option maxRecDepth 20000 in
theorem gL_law_L_lookup : GoodIn wsL_law (va_wsS RL 100 yL_lookup wsL_lookup) := goodIn_app (goodIn_of _ (by decide +kernel)) ggL_law_L_lookup
set_option maxRecDepth 20000 in
theorem ggL_law_X11_lookup : GoodIn wsL_law wsX11_lookup := goodIn_r _ [333, 100, 238, 239, 240, 5, 241, 234, 235, 236, 237, 246, 247, 248, 249, 250, 258, 259, 260, 261, 262, 103, 104, 105, 98, 106, 263, 264, 265, 266, 102, 101, 267, 268, 269, 270, 271, 272, 273, 274, 99, 251, 252, 253, 254, 255, 256, 257, 275, 276, 277, 278, 279, 107, 334, 335, 336, 337, 854, 855, 856, 857, 858, 859, 860, 861, 862, 863, 864, 865, 866, 867, 868, 869, 870, 871, 872, 873, 874, 875, 876, 877, 878, 879, 880, 881] (by decide +kernel) (by decide +kernel)
set_option maxRecDepth 20000 in
theorem gL_law_X11_lookup : GoodIn wsL_law (wsV RL 102 RX11 yX11_lookup wsX11_lookup) := goodIn_app (goodIn_of _ (by decide +kernel)) ggL_law_X11_lookup
set_option maxRecDepth 20000 in
theorem ggL_law_X10_asked : GoodIn wsL_law wsX10_asked := goodIn_r _ [341, 23, 342, 343, 344, 18, 345, 180, 844, 845, 846, 847, 848, 849, 850, 851, 852, 853, 887, 888, 889, 890, 891, 892, 893] (by decide +kernel) (by decide +kernel)
set_option maxRecDepth 20000 in
theorem gL_law_X10_asked : GoodIn wsL_law (wsV RL 103 RX10 yX10_asked wsX10_asked) := goodIn_app (goodIn_of _ (by decide +kernel)) ggL_law_X10_asked
set_option maxRecDepth 20000 in
theorem ggL_law_X11_asked : GoodIn wsL_law wsX11_asked := goodIn_r _ [349, 250, 262, 854, 855, 856, 857, 858, 859, 860, 861, 862, 863, 864, 865, 866, 867, 868, 869, 870, 871, 872, 873, 874, 875, 876, 877, 878, 879, 880, 881] (by decide +kernel) (by decide +kernel)
set_option maxRecDepth 20000 in
theorem gL_law_X11_asked : GoodIn wsL_law (wsV RL 106 RX11 yX11_asked wsX11_asked) := goodIn_app (goodIn_of _ (by decide +kernel)) ggL_law_X11_asked
set_option maxRecDepth 20000 in
theorem ggL_law_L_closest : GoodIn wsL_law wsL_closest := goodIn_ca (goodIn_ca (goodIn_r _ [352, 124, 123, 353, 354, 355, 2, 356, 28, 22, 137, 138, 139, 140, 141, 142, 143, 144, 145, 15, 146, 147, 132, 133, 134, 135, 136, 357, 186, 187, 27, 188, 189, 358, 222, 223, 224, 50, 48, 164, 359, 208, 209, 210, 47, 360, 196, 197, 198, 68, 67, 325, 326, 327, 328, 329, 200, 201, 202, 844, 845, 846, 847, 848, 849, 850, 851, 852, 853, 882, 883, 884, 885, 886, 895, 896, 897] (by decide +kernel) (by decide +kernel)) (goodIn_sub (fun _ h => List.mem_append_right _ h) (by decide +kernel))) (goodIn_sub (fun _ h => List.mem_append_left _ (List.mem_append_right _ h)) (by decide +kernel))
set_option maxRecDepth 20000 in
theorem gL_law_L_closest : GoodIn wsL_law (va_wsS RL 107 yL_closest wsL_closest) := goodIn_app (goodIn_of _ (by decide +kernel)) ggL_law_L_closest
set_option maxRecDepth 20000 in
theorem ggL_law_X11_closest : GoodIn wsL_law wsX11_closest := goodIn_r _ [364, 105, 234, 100, 99, 238, 239, 240, 5, 241, 235, 236, 237, 246, 247, 248, 249, 250, 275, 276, 277, 278, 279, 98, 107, 334, 335, 336, 337, 854, 855, 856, 857, 858, 859, 860, 861, 862, 863, 864, 865, 866, 867, 868, 869, 870, 871, 872, 873, 874, 875, 876, 877, 878, 879, 880, 881] (by decide +kernel) (by decide +kernel)
set_option maxRecDepth 20000 in
theorem gL_law_X11_closest : GoodIn wsL_law (wsV RL 110 RX11 yX11_closest wsX11_closest) := goodIn_app (goodIn_of _ (by decide +kernel)) ggL_law_X11_closest
set_option maxRecDepth 20000 in
theorem ggL_law_L_file : GoodIn wsL_law wsL_file := goodIn_ca (goodIn_ca (goodIn_r _ [367, 124, 125, 368, 369, 370, 2, 371, 130, 131, 372, 30, 29, 373, 374, 34, 137, 138, 139, 140, 141, 142, 22, 143, 144, 145, 15, 146, 147, 156, 157, 158, 159, 160, 161, 162, 163, 50, 164, 375, 376, 377, 378, 11, 12, 46, 379, 49, 380, 381, 382, 383, 384, 385, 386, 387, 388, 389, 390, 391, 392, 393, 394, 395, 396, 397, 398, 399, 400, 401, 402, 403, 404, 405, 406, 407, 408, 409, 33, 410, 79, 78, 411, 412, 413, 414, 415, 416, 417, 418, 419, 420, 421, 422, 423, 424, 425, 426, 427, 428, 429, 430, 177, 178, 18, 179, 180, 58, 59, 181, 182, 183, 184, 60, 62, 63, 61, 185, 186, 187, 27, 188, 189, 190, 191, 192, 193, 52, 48, 47, 194, 195, 196, 197, 198, 68, 67, 199, 200, 201, 202, 203, 204, 205, 206, 207, 208, 209, 210, 211, 212, 213, 214, 215, 216, 217, 218, 219, 220, 221, 222, 223, 224, 225, 170, 171, 172, 173, 174, 175, 226, 227, 228, 229, 431, 432, 433, 434, 435, 322, 323, 324, 436, 437, 438, 439, 440, 441, 442, 443, 444, 445, 446, 447, 448, 844, 845, 846, 847, 848, 849, 850, 851, 852, 853, 906, 907, 908, 909, 910, 911, 882, 883, 884, 885, 886, 912, 898, 899, 900, 887, 888, 889, 890, 891, 892, 893, 895, 896, 897] (by decide +kernel) (by decide +kernel)) (goodIn_sub (fun _ h => List.mem_append_left _ (List.mem_append_left _ (List.mem_append_right _ h))) (by decide +kernel))) (goodIn_sub (fun _ h => List.mem_append_right _ h) (by decide +kernel))
set_option maxRecDepth 20000 in
theorem gL_law_L_file : GoodIn wsL_law (va_wsS RL 111 yL_file wsL_file) := goodIn_app (goodIn_of _ (by decide +kernel)) ggL_law_L_file
set_option maxRecDepth 20000 in
theorem ggL_law_X11_file : GoodIn wsL_law wsX11_file := goodIn_r _ [452, 100, 453, 108, 109, 110, 238, 239, 240, 5, 241, 234, 235, 236, 237, 246, 247, 248, 249, 250, 454, 455, 456, 457, 458, 459, 460, 461, 462, 463, 112, 111, 279, 107, 99, 464, 465, 466, 467, 258, 259, 260, 261, 262, 103, 104, 105, 98, 106, 263, 264, 265, 266, 102, 101, 267, 268, 269, 270, 271, 272, 273, 274, 251, 252, 253, 254, 255, 256, 257, 275, 276, 277, 278, 854, 855, 856, 857, 858, 859, 860, 861, 862, 863, 864, 865, 866, 867, 868, 869, 870, 871, 872, 873, 874, 875, 876, 877, 878, 879, 880, 881] (by decide +kernel) (by decide +kernel)
set_option maxRecDepth 20000 in
theorem gL_law_X11_file : GoodIn wsL_law (wsV RL 113 RX11 yX11_file wsX11_file) := goodIn_app (goodIn_of _ (by decide +kernel)) ggL_law_X11_file
set_option maxRecDepth 20000 in
theorem ggL_law_L_piece : GoodIn wsL_law wsL_piece := goodIn_ca (goodIn_ca (goodIn_r _ [470, 124, 123, 471, 472, 473, 2, 474, 135, 136, 475, 476, 477, 478, 141, 142, 30, 479, 480, 481, 482, 483, 484, 374, 485, 383, 486, 487, 488, 489, 379, 415, 416, 417, 490, 491, 492, 493, 380, 494, 495, 496, 497, 381, 844, 845, 846, 847, 848, 849, 850, 851, 852, 853, 906, 907, 908, 909, 910, 911] (by decide +kernel) (by decide +kernel)) (goodIn_sub (fun _ h => List.mem_append_left _ (List.mem_append_right _ h)) (by decide +kernel))) (goodIn_sub (fun _ h => List.mem_append_right _ h) (by decide +kernel))
set_option maxRecDepth 20000 in
theorem gL_law_L_piece : GoodIn wsL_law (va_wsS RL 114 yL_piece wsL_piece) := goodIn_app (goodIn_of _ (by decide +kernel)) ggL_law_L_piece
set_option maxRecDepth 20000 in
theorem ggL_law_X11_piece : GoodIn wsL_law wsX11_piece := goodIn_r _ [501, 109, 110, 111, 112, 502, 503, 504, 5, 505, 506, 507, 508, 509, 453, 235, 236, 237, 246, 247, 248, 249, 250, 854, 855, 856, 857, 858, 859, 860, 861, 862, 863, 864, 865, 866, 867, 868, 869, 870, 871, 872, 873, 874, 875, 876, 877, 878, 879, 880, 881] (by decide +kernel) (by decide +kernel)
set_option maxRecDepth 20000 in
theorem gL_law_X11_piece : GoodIn wsL_law (wsV RL 116 RX11 yX11_piece wsX11_piece) := goodIn_app (goodIn_of _ (by decide +kernel)) ggL_law_X11_piece
set_option maxRecDepth 20000 in
theorem ggL_law_L_spoil : GoodIn wsL_law wsL_spoil := goodIn_ca (goodIn_ca (goodIn_r _ [512, 124, 125, 513, 514, 515, 2, 516, 130, 131, 475, 476, 477, 478, 141, 142, 30, 479, 480, 481, 517, 412, 413, 374, 414, 379, 415, 416, 417, 490, 491, 492, 493, 380, 518, 519, 520, 521, 844, 845, 846, 847, 848, 849, 850, 851, 852, 853, 906, 907, 908, 909, 910, 911] (by decide +kernel) (by decide +kernel)) (goodIn_sub (fun _ h => List.mem_append_left _ (List.mem_append_left _ (List.mem_append_right _ h))) (by decide +kernel))) (goodIn_sub (fun _ h => List.mem_append_right _ h) (by decide +kernel))
set_option maxRecDepth 20000 in
theorem gL_law_L_spoil : GoodIn wsL_law (va_wsS RL 117 yL_spoil wsL_spoil) := goodIn_app (goodIn_of _ (by decide +kernel)) ggL_law_L_spoil
set_option maxRecDepth 20000 in
theorem ggL_law_X11_spoil : GoodIn wsL_law wsX11_spoil := goodIn_r _ [525, 110, 111, 502, 503, 504, 5, 505, 506, 507, 508, 509, 453, 235, 236, 237, 246, 247, 248, 249, 250, 854, 855, 856, 857, 858, 859, 860, 861, 862, 863, 864, 865, 866, 867, 868, 869, 870, 871, 872, 873, 874, 875, 876, 877, 878, 879, 880, 881] (by decide +kernel) (by decide +kernel)
set_option maxRecDepth 20000 in
theorem gL_law_X11_spoil : GoodIn wsL_law (wsV RL 119 RX11 yX11_spoil wsX11_spoil) := goodIn_app (goodIn_of _ (by decide +kernel)) ggL_law_X11_spoil
set_option maxRecDepth 20000 in
theorem ggL_law_L_root : GoodIn wsL_law wsL_root := goodIn_ca (goodIn_r _ [528, 124, 529, 530, 531, 2, 532, 475, 476, 477, 478, 141, 142, 30, 533, 534, 535, 374, 536, 387, 537, 538, 539, 386, 540, 402, 844, 845, 846, 847, 848, 849, 850, 851, 852, 853, 906, 907, 908, 909, 910, 911, 912] (by decide +kernel) (by decide +kernel)) (goodIn_sub (fun _ h => List.mem_append_right _ h) (by decide +kernel))
set_option maxRecDepth 20000 in
theorem gL_law_L_root : GoodIn wsL_law (va_wsS RL 120 yL_root wsL_root) := goodIn_app (goodIn_of _ (by decide +kernel)) ggL_law_L_root
set_option maxRecDepth 20000 in
theorem ggL_law_X11_root : GoodIn wsL_law wsX11_root := goodIn_r _ [544, 113, 506, 507, 508, 5, 509, 453, 235, 236, 237, 246, 247, 248, 249, 250, 545, 546, 547, 548, 109, 464, 465, 466, 467, 854, 855, 856, 857, 858, 859, 860, 861, 862, 863, 864, 865, 866, 867, 868, 869, 870, 871, 872, 873, 874, 875, 876, 877, 878, 879, 880, 881] (by decide +kernel) (by decide +kernel)
set_option maxRecDepth 20000 in
theorem gL_law_X11_root : GoodIn wsL_law (wsV RL 123 RX11 yX11_root wsX11_root) := goodIn_app (goodIn_of _ (by decide +kernel)) ggL_law_X11_root
set_option maxRecDepth 20000 in
theorem ggL_law_L_proof : GoodIn wsL_law wsL_proof := goodIn_ca (goodIn_ca (goodIn_r _ [551, 124, 123, 552, 553, 554, 2, 555, 475, 476, 477, 478, 141, 142, 30, 479, 480, 481, 132, 133, 134, 135, 136, 533, 534, 535, 374, 536, 387, 556, 557, 558, 386, 559, 402, 844, 845, 846, 847, 848, 849, 850, 851, 852, 853, 906, 907, 908, 909, 910, 911, 912] (by decide +kernel) (by decide +kernel)) (goodIn_sub (fun _ h => List.mem_append_right _ h) (by decide +kernel))) (goodIn_sub (fun _ h => List.mem_append_left _ (List.mem_append_right _ h)) (by decide +kernel))
set_option maxRecDepth 20000 in
theorem gL_law_L_proof : GoodIn wsL_law (va_wsS RL 124 yL_proof wsL_proof) := goodIn_app (goodIn_of _ (by decide +kernel)) ggL_law_L_proof
set_option maxRecDepth 20000 in
theorem ggL_law_X11_proof : GoodIn wsL_law wsX11_proof := goodIn_r _ [563, 113, 502, 503, 504, 5, 505, 506, 507, 508, 509, 453, 235, 236, 237, 246, 247, 248, 249, 250, 545, 546, 547, 548, 109, 464, 465, 466, 467, 854, 855, 856, 857, 858, 859, 860, 861, 862, 863, 864, 865, 866, 867, 868, 869, 870, 871, 872, 873, 874, 875, 876, 877, 878, 879, 880, 881] (by decide +kernel) (by decide +kernel)
set_option maxRecDepth 20000 in
theorem gL_law_X11_proof : GoodIn wsL_law (wsV RL 126 RX11 yX11_proof wsX11_proof) := goodIn_app (goodIn_of _ (by decide +kernel)) ggL_law_X11_proof
set_option maxRecDepth 20000 in
theorem ggL_law_L_isProved : GoodIn wsL_law wsL_isProved := goodIn_ca (goodIn_ca (goodIn_r _ [566, 124, 123, 567, 568, 569, 2, 570, 475, 476, 477, 478, 141, 142, 30, 479, 480, 481, 132, 133, 134, 135, 136, 533, 534, 535, 374, 536, 387, 537, 538, 539, 386, 540, 402, 571, 572, 573, 403, 404, 405, 406, 574, 575, 576, 844, 845, 846, 847, 848, 849, 850, 851, 852, 853, 906, 907, 908, 909, 910, 911, 912] (by decide +kernel) (by decide +kernel)) (goodIn_sub (fun _ h => List.mem_append_right _ h) (by decide +kernel))) (goodIn_sub (fun _ h => List.mem_append_left _ (List.mem_append_right _ h)) (by decide +kernel))
set_option maxRecDepth 20000 in
theorem gL_law_L_isProved : GoodIn wsL_law (va_wsS RL 127 yL_isProved wsL_isProved) := goodIn_app (goodIn_of _ (by decide +kernel)) ggL_law_L_isProved
set_option maxRecDepth 20000 in
theorem ggL_law_X11_isProved : GoodIn wsL_law wsX11_isProved := goodIn_r _ [580, 113, 502, 503, 504, 5, 505, 506, 507, 508, 509, 453, 235, 236, 237, 246, 247, 248, 249, 250, 545, 546, 547, 548, 109, 464, 465, 466, 467, 854, 855, 856, 857, 858, 859, 860, 861, 862, 863, 864, 865, 866, 867, 868, 869, 870, 871, 872, 873, 874, 875, 876, 877, 878, 879, 880, 881] (by decide +kernel) (by decide +kernel)
set_option maxRecDepth 20000 in
theorem gL_law_X11_isProved : GoodIn wsL_law (wsV RL 130 RX11 yX11_isProved wsX11_isProved) := goodIn_app (goodIn_of _ (by decide +kernel)) ggL_law_X11_isProved
set_option maxRecDepth 20000 in
theorem ggL_law_L_mend : GoodIn wsL_law wsL_mend := goodIn_ca (goodIn_ca (goodIn_r _ [583, 124, 123, 584, 585, 586, 2, 587, 135, 136, 475, 476, 477, 478, 141, 142, 30, 132, 133, 134, 588, 589, 590, 591, 592, 593, 594, 595, 596, 597, 374, 598, 383, 599, 600, 390, 601, 602, 603, 604, 392, 393, 394, 395, 396, 397, 605, 606, 607, 608, 609, 610, 844, 845, 846, 847, 848, 849, 850, 851, 852, 853, 906, 907, 908, 909, 910, 911] (by decide +kernel) (by decide +kernel)) (goodIn_sub (fun _ h => List.mem_append_left _ (List.mem_append_right _ h)) (by decide +kernel))) (goodIn_sub (fun _ h => List.mem_append_right _ h) (by decide +kernel))
set_option maxRecDepth 20000 in
theorem gL_law_L_mend : GoodIn wsL_law (va_wsS RL 131 yL_mend wsL_mend) := goodIn_app (goodIn_of _ (by decide +kernel)) ggL_law_L_mend
set_option maxRecDepth 20000 in
theorem ggL_law_X11_mend : GoodIn wsL_law wsX11_mend := goodIn_r _ [614, 109, 506, 507, 508, 5, 509, 453, 235, 236, 237, 615, 616, 617, 246, 247, 248, 249, 250, 854, 855, 856, 857, 858, 859, 860, 861, 862, 863, 864, 865, 866, 867, 868, 869, 870, 871, 872, 873, 874, 875, 876, 877, 878, 879, 880, 881] (by decide +kernel) (by decide +kernel)
set_option maxRecDepth 20000 in
theorem gL_law_X11_mend : GoodIn wsL_law (wsV RL 133 RX11 yX11_mend wsX11_mend) := goodIn_app (goodIn_of _ (by decide +kernel)) ggL_law_X11_mend
set_option maxRecDepth 20000 in
theorem ggL_law_L_fetch : GoodIn wsL_law wsL_fetch := goodIn_ca (goodIn_ca (goodIn_r _ [620, 124, 125, 621, 622, 623, 2, 624, 34, 137, 138, 139, 140, 141, 142, 22, 143, 144, 145, 15, 146, 147, 475, 476, 477, 478, 30, 156, 157, 158, 159, 130, 131, 160, 161, 162, 163, 50, 164, 625, 626, 627, 33, 628, 80, 629, 630, 631, 632, 78, 633, 491, 492, 374, 493, 380, 415, 416, 417, 634, 487, 488, 489, 379, 635, 418, 419, 420, 421, 382, 636, 637, 638, 21, 639, 73, 640, 641, 642, 844, 845, 846, 847, 848, 849, 850, 851, 852, 853, 882, 883, 884, 885, 886, 898, 899, 900, 906, 907, 908, 909, 910, 911, 894] (by decide +kernel) (by decide +kernel)) (goodIn_sub (fun _ h => List.mem_append_right _ h) (by decide +kernel))) (goodIn_sub (fun _ h => List.mem_append_left _ (List.mem_append_left _ (List.mem_append_right _ h))) (by decide +kernel))
set_option maxRecDepth 20000 in
theorem gL_law_L_fetch : GoodIn wsL_law (va_wsS RL 134 yL_fetch wsL_fetch) := goodIn_app (goodIn_of _ (by decide +kernel)) ggL_law_L_fetch
set_option maxRecDepth 20000 in
theorem ggL_law_X11_fetch : GoodIn wsL_law wsX11_fetch := goodIn_r _ [646, 100, 108, 118, 110, 238, 239, 240, 5, 241, 234, 235, 236, 237, 506, 507, 508, 509, 453, 246, 247, 248, 249, 250, 647, 648, 649, 650, 111, 854, 855, 856, 857, 858, 859, 860, 861, 862, 863, 864, 865, 866, 867, 868, 869, 870, 871, 872, 873, 874, 875, 876, 877, 878, 879, 880, 881] (by decide +kernel) (by decide +kernel)
set_option maxRecDepth 20000 in
theorem gL_law_X11_fetch : GoodIn wsL_law (wsV RL 136 RX11 yX11_fetch wsX11_fetch) := goodIn_app (goodIn_of _ (by decide +kernel)) ggL_law_X11_fetch
set_option maxRecDepth 20000 in
theorem ggL_law_L_pass : GoodIn wsL_law wsL_pass := goodIn_ca (goodIn_r _ [653, 125, 654, 655, 656, 2, 657, 130, 131, 658, 30, 34, 659, 660, 661, 33, 662, 78, 418, 419, 420, 374, 421, 382, 635, 161, 162, 15, 163, 50, 164, 144, 145, 146, 147, 411, 412, 413, 414, 379, 415, 416, 417, 663, 664, 665, 666, 80, 634, 487, 488, 489, 629, 630, 631, 632, 633, 491, 492, 493, 380, 636, 637, 638, 21, 639, 73, 640, 641, 642, 667, 668, 669, 670, 381, 671, 495, 496, 497, 445, 446, 447, 448, 672, 673, 674, 675, 407, 408, 409, 410, 79, 422, 423, 424, 425, 387, 426, 427, 428, 386, 429, 402, 430, 177, 178, 18, 179, 180, 58, 59, 181, 182, 183, 184, 60, 62, 63, 61, 185, 186, 187, 27, 188, 189, 190, 191, 192, 193, 52, 48, 47, 194, 195, 196, 197, 198, 68, 67, 199, 200, 201, 202, 203, 204, 205, 206, 207, 208, 209, 210, 211, 212, 213, 214, 215, 216, 217, 218, 219, 220, 221, 222, 223, 224, 225, 170, 171, 172, 173, 174, 175, 226, 227, 228, 229, 431, 432, 433, 434, 435, 322, 323, 324, 436, 437, 438, 439, 440, 441, 442, 443, 444, 844, 845, 846, 847, 848, 849, 850, 851, 852, 853, 898, 899, 900, 906, 907, 908, 909, 910, 911, 882, 883, 884, 885, 886, 894, 912, 887, 888, 889, 890, 891, 892, 893, 895, 896, 897] (by decide +kernel) (by decide +kernel)) (goodIn_sub (fun _ h => List.mem_append_left _ (List.mem_append_left _ (List.mem_append_right _ h))) (by decide +kernel))
set_option maxRecDepth 20000 in
theorem gL_law_L_pass : GoodIn wsL_law (va_wsS RL 137 yL_pass wsL_pass) := goodIn_app (goodIn_of _ (by decide +kernel)) ggL_law_L_pass
set_option maxRecDepth 20000 in
theorem ggL_law_X11_pass : GoodIn wsL_law wsX11_pass := goodIn_r _ [679, 680, 453, 246, 247, 248, 5, 249, 250, 681, 682, 683, 684, 108, 110, 100, 118, 112, 111, 647, 648, 649, 650, 685, 686, 687, 688, 460, 461, 462, 463, 109, 279, 107, 99, 464, 465, 466, 467, 258, 259, 260, 261, 262, 103, 104, 105, 234, 98, 106, 263, 264, 265, 266, 102, 101, 267, 268, 269, 270, 271, 272, 273, 274, 251, 252, 253, 254, 255, 256, 257, 275, 276, 277, 278, 854, 855, 856, 857, 858, 859, 860, 861, 862, 863, 864, 865, 866, 867, 868, 869, 870, 871, 872, 873, 874, 875, 876, 877, 878, 879, 880, 881] (by decide +kernel) (by decide +kernel)
set_option maxRecDepth 20000 in
theorem gL_law_X11_pass : GoodIn wsL_law (wsV RL 140 RX11 yX11_pass wsX11_pass) := goodIn_app (goodIn_of _ (by decide +kernel)) ggL_law_X11_pass
set_option maxRecDepth 20000 in
theorem ggL_law_L_tell : GoodIn wsL_law wsL_tell := goodIn_ca (goodIn_ca (goodIn_ca (goodIn_r _ [691, 124, 123, 125, 692, 693, 694, 2, 695, 130, 131, 38, 23, 22, 137, 138, 139, 140, 141, 142, 143, 144, 145, 15, 146, 147, 132, 133, 134, 135, 136, 156, 157, 158, 159, 160, 161, 162, 163, 50, 164, 696, 697, 698, 37, 699, 85, 700, 701, 702, 703, 704, 705, 706, 707, 176, 177, 178, 18, 179, 180, 58, 59, 181, 182, 183, 184, 60, 62, 63, 61, 185, 186, 187, 27, 188, 189, 190, 191, 192, 193, 52, 48, 47, 194, 195, 196, 197, 198, 68, 67, 199, 200, 201, 202, 203, 204, 205, 206, 207, 208, 209, 210, 211, 212, 213, 214, 215, 216, 217, 218, 219, 220, 221, 222, 223, 224, 225, 170, 171, 172, 173, 174, 175, 226, 227, 228, 229, 321, 322, 323, 324, 708, 709, 442, 443, 444, 710, 711, 712, 713, 87, 714, 715, 716, 717, 718, 719, 844, 845, 846, 847, 848, 849, 850, 851, 852, 853, 882, 883, 884, 885, 886, 901, 902, 887, 888, 889, 890, 891, 892, 893, 895, 896, 897] (by decide +kernel) (by decide +kernel)) (goodIn_sub (fun _ h => List.mem_append_left _ (List.mem_append_left _ (List.mem_append_right _ h))) (by decide +kernel))) (goodIn_sub (fun _ h => List.mem_append_right _ h) (by decide +kernel))) (goodIn_sub (fun _ h => List.mem_append_left _ (List.mem_append_right _ h)) (by decide +kernel))
set_option maxRecDepth 20000 in
theorem gL_law_L_tell : GoodIn wsL_law (va_wsS RL 141 yL_tell wsL_tell) := goodIn_app (goodIn_of _ (by decide +kernel)) ggL_law_L_tell
set_option maxRecDepth 20000 in
theorem ggL_law_X11_tell : GoodIn wsL_law wsX11_tell := goodIn_r _ [723, 100, 114, 279, 107, 99, 115, 116, 238, 239, 240, 5, 241, 234, 235, 236, 237, 246, 247, 248, 249, 250, 258, 259, 260, 261, 262, 103, 104, 105, 98, 106, 263, 264, 265, 266, 102, 101, 267, 268, 269, 270, 271, 272, 273, 274, 251, 252, 253, 254, 255, 256, 257, 275, 276, 277, 278, 854, 855, 856, 857, 858, 859, 860, 861, 862, 863, 864, 865, 866, 867, 868, 869, 870, 871, 872, 873, 874, 875, 876, 877, 878, 879, 880, 881] (by decide +kernel) (by decide +kernel)
set_option maxRecDepth 20000 in
theorem gL_law_X11_tell : GoodIn wsL_law (wsV RL 144 RX11 yX11_tell wsX11_tell) := goodIn_app (goodIn_of _ (by decide +kernel)) ggL_law_X11_tell
set_option maxRecDepth 20000 in
theorem ggL_law_L_name : GoodIn wsL_law wsL_name := goodIn_ca (goodIn_ca (goodIn_ca (goodIn_r _ [726, 124, 123, 125, 727, 728, 729, 2, 730, 23, 22, 38, 137, 138, 139, 140, 141, 142, 143, 144, 145, 15, 146, 147, 132, 133, 134, 135, 136, 156, 157, 158, 159, 130, 131, 160, 161, 162, 163, 50, 164, 176, 177, 178, 18, 179, 180, 58, 59, 181, 182, 183, 184, 60, 62, 63, 61, 185, 186, 187, 27, 188, 189, 190, 191, 192, 193, 52, 48, 47, 194, 195, 196, 197, 198, 68, 67, 199, 200, 201, 202, 203, 204, 205, 206, 207, 208, 209, 210, 211, 212, 213, 214, 215, 216, 217, 218, 219, 220, 221, 222, 223, 224, 225, 170, 171, 172, 173, 174, 175, 226, 227, 228, 229, 321, 322, 323, 324, 708, 709, 442, 443, 444, 731, 732, 733, 37, 734, 87, 714, 715, 716, 700, 701, 702, 735, 718, 719, 844, 845, 846, 847, 848, 849, 850, 851, 852, 853, 882, 883, 884, 885, 886, 887, 888, 889, 890, 891, 892, 893, 895, 896, 897, 901, 902] (by decide +kernel) (by decide +kernel)) (goodIn_sub (fun _ h => List.mem_append_right _ h) (by decide +kernel))) (goodIn_sub (fun _ h => List.mem_append_left _ (List.mem_append_right _ h)) (by decide +kernel))) (goodIn_sub (fun _ h => List.mem_append_left _ (List.mem_append_left _ (List.mem_append_right _ h))) (by decide +kernel))
set_option maxRecDepth 20000 in
theorem gL_law_L_name : GoodIn wsL_law (va_wsS RL 145 yL_name wsL_name) := goodIn_app (goodIn_of _ (by decide +kernel)) ggL_law_L_name
set_option maxRecDepth 20000 in
theorem ggL_law_X11_name : GoodIn wsL_law wsX11_name := goodIn_r _ [739, 100, 279, 107, 99, 115, 116, 238, 239, 240, 5, 241, 234, 235, 236, 237, 246, 247, 248, 249, 250, 258, 259, 260, 261, 262, 103, 104, 105, 98, 106, 263, 264, 265, 266, 102, 101, 267, 268, 269, 270, 271, 272, 273, 274, 251, 252, 253, 254, 255, 256, 257, 275, 276, 277, 278, 854, 855, 856, 857, 858, 859, 860, 861, 862, 863, 864, 865, 866, 867, 868, 869, 870, 871, 872, 873, 874, 875, 876, 877, 878, 879, 880, 881] (by decide +kernel) (by decide +kernel)
set_option maxRecDepth 20000 in
theorem gL_law_X11_name : GoodIn wsL_law (wsV RL 147 RX11 yX11_name wsX11_name) := goodIn_app (goodIn_of _ (by decide +kernel)) ggL_law_X11_name
set_option maxRecDepth 20000 in
theorem ggL_law_L_spread : GoodIn wsL_law wsL_spread := goodIn_ca (goodIn_ca (goodIn_r _ [742, 124, 125, 743, 744, 745, 2, 746, 42, 137, 138, 139, 140, 141, 142, 22, 143, 144, 145, 15, 146, 147, 156, 157, 158, 159, 130, 131, 160, 161, 162, 163, 50, 164, 747, 748, 749, 41, 750, 92, 751, 752, 753, 754, 755, 93, 756, 442, 443, 444, 48, 757, 758, 759, 760, 761, 307, 308, 309, 52, 762, 222, 223, 224, 844, 845, 846, 847, 848, 849, 850, 851, 852, 853, 882, 883, 884, 885, 886, 903, 904, 905] (by decide +kernel) (by decide +kernel)) (goodIn_sub (fun _ h => List.mem_append_right _ h) (by decide +kernel))) (goodIn_sub (fun _ h => List.mem_append_left _ (List.mem_append_left _ (List.mem_append_right _ h))) (by decide +kernel))
set_option maxRecDepth 20000 in
theorem gL_law_L_spread : GoodIn wsL_law (va_wsS RL 148 yL_spread wsL_spread) := goodIn_app (goodIn_of _ (by decide +kernel)) ggL_law_L_spread
set_option maxRecDepth 20000 in
theorem ggL_law_X11_spread : GoodIn wsL_law wsX11_spread := goodIn_r _ [766, 100, 117, 767, 234, 99, 238, 239, 240, 5, 241, 235, 236, 237, 246, 247, 248, 249, 250, 263, 264, 265, 266, 102, 101, 854, 855, 856, 857, 858, 859, 860, 861, 862, 863, 864, 865, 866, 867, 868, 869, 870, 871, 872, 873, 874, 875, 876, 877, 878, 879, 880, 881] (by decide +kernel) (by decide +kernel)
set_option maxRecDepth 20000 in
theorem gL_law_X11_spread : GoodIn wsL_law (wsV RL 150 RX11 yX11_spread wsX11_spread) := goodIn_app (goodIn_of _ (by decide +kernel)) ggL_law_X11_spread
set_option maxRecDepth 20000 in
theorem ggL_law_X10_rounds : GoodIn wsL_law wsX10_rounds := goodIn_r _ [771, 42, 772, 773, 774, 41, 775, 751, 844, 845, 846, 847, 848, 849, 850, 851, 852, 853, 903, 904, 905] (by decide +kernel) (by decide +kernel)
set_option maxRecDepth 20000 in
theorem gL_law_X10_rounds : GoodIn wsL_law (wsV RL 151 RX10 yX10_rounds wsX10_rounds) := goodIn_app (goodIn_of _ (by decide +kernel)) ggL_law_X10_rounds
set_option maxRecDepth 20000 in
theorem ggL_law_X11_rounds : GoodIn wsL_law wsX11_rounds := goodIn_r _ [779, 250, 767, 854, 855, 856, 857, 858, 859, 860, 861, 862, 863, 864, 865, 866, 867, 868, 869, 870, 871, 872, 873, 874, 875, 876, 877, 878, 879, 880, 881] (by decide +kernel) (by decide +kernel)
set_option maxRecDepth 20000 in
theorem gL_law_X11_rounds : GoodIn wsL_law (wsV RL 154 RX11 yX11_rounds wsX11_rounds) := goodIn_app (goodIn_of _ (by decide +kernel)) ggL_law_X11_rounds
set_option maxRecDepth 20000 in
theorem ggL_law_L_owes : GoodIn wsL_law wsL_owes := goodIn_ca (goodIn_r _ [782, 124, 783, 784, 785, 2, 786, 24, 137, 138, 139, 140, 141, 142, 22, 143, 144, 145, 15, 146, 147, 787, 788, 789, 21, 790, 73, 640, 641, 642, 844, 845, 846, 847, 848, 849, 850, 851, 852, 853, 882, 883, 884, 885, 886, 894] (by decide +kernel) (by decide +kernel)) (goodIn_sub (fun _ h => List.mem_append_right _ h) (by decide +kernel))
set_option maxRecDepth 20000 in
theorem gL_law_L_owes : GoodIn wsL_law (va_wsS RL 155 yL_owes wsL_owes) := goodIn_app (goodIn_of _ (by decide +kernel)) ggL_law_L_owes
set_option maxRecDepth 20000 in
theorem ggL_law_X11_owes : GoodIn wsL_law wsX11_owes := goodIn_r _ [794, 118, 238, 239, 240, 5, 241, 234, 235, 236, 237, 246, 247, 248, 249, 250, 854, 855, 856, 857, 858, 859, 860, 861, 862, 863, 864, 865, 866, 867, 868, 869, 870, 871, 872, 873, 874, 875, 876, 877, 878, 879, 880, 881] (by decide +kernel) (by decide +kernel)
set_option maxRecDepth 20000 in
theorem gL_law_X11_owes : GoodIn wsL_law (wsV RL 157 RX11 yX11_owes wsX11_owes) := goodIn_app (goodIn_of _ (by decide +kernel)) ggL_law_X11_owes
set_option maxRecDepth 20000 in
theorem ggL_law_X10_net : GoodIn wsL_law wsX10_net := goodIn_r _ [798, 24, 799, 800, 801, 21, 802, 803, 804, 805, 806, 807, 808, 809, 810, 811, 788, 789, 790, 73, 640, 641, 642, 812, 637, 638, 639, 813, 814, 815, 816, 844, 845, 846, 847, 848, 849, 850, 851, 852, 853, 894] (by decide +kernel) (by decide +kernel)
set_option maxRecDepth 20000 in
theorem gL_law_X10_net : GoodIn wsL_law (wsV RL 158 RX10 yX10_net wsX10_net) := goodIn_app (goodIn_of _ (by decide +kernel)) ggL_law_X10_net
set_option maxRecDepth 20000 in
theorem ggL_law_X11_net : GoodIn wsL_law wsX11_net := goodIn_r _ [820, 250, 821, 822, 823, 5, 824, 234, 825, 826, 827, 828, 118, 854, 855, 856, 857, 858, 859, 860, 861, 862, 863, 864, 865, 866, 867, 868, 869, 870, 871, 872, 873, 874, 875, 876, 877, 878, 879, 880, 881] (by decide +kernel) (by decide +kernel)
set_option maxRecDepth 20000 in
theorem gL_law_X11_net : GoodIn wsL_law (wsV RL 161 RX11 yX11_net wsX11_net) := goodIn_app (goodIn_of _ (by decide +kernel)) ggL_law_X11_net
set_option maxRecDepth 20000 in
theorem ggL_law_L_worth : GoodIn wsL_law wsL_worth := goodIn_ca (goodIn_r _ [831, 124, 832, 833, 834, 2, 835, 24, 137, 138, 139, 140, 141, 142, 22, 143, 144, 145, 15, 146, 147, 836, 837, 838, 21, 839, 811, 788, 789, 790, 73, 640, 641, 642, 844, 845, 846, 847, 848, 849, 850, 851, 852, 853, 882, 883, 884, 885, 886, 894] (by decide +kernel) (by decide +kernel)) (goodIn_sub (fun _ h => List.mem_append_right _ h) (by decide +kernel))
set_option maxRecDepth 20000 in
theorem gL_law_L_worth : GoodIn wsL_law (va_wsS RL 162 yL_worth wsL_worth) := goodIn_app (goodIn_of _ (by decide +kernel)) ggL_law_L_worth
set_option maxRecDepth 20000 in
theorem ggL_law_X11_worth : GoodIn wsL_law wsX11_worth := goodIn_r _ [843, 234, 118, 238, 239, 240, 5, 241, 235, 236, 237, 246, 247, 248, 249, 250, 854, 855, 856, 857, 858, 859, 860, 861, 862, 863, 864, 865, 866, 867, 868, 869, 870, 871, 872, 873, 874, 875, 876, 877, 878, 879, 880, 881] (by decide +kernel) (by decide +kernel)
set_option maxRecDepth 20000 in
theorem gL_law_X11_worth : GoodIn wsL_law (wsV RL 164 RX11 yX11_worth wsX11_worth) := goodIn_app (goodIn_of _ (by decide +kernel)) ggL_law_X11_worth
