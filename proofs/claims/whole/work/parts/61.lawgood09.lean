set_option maxRecDepth 20000 in
theorem ggL_law_X11_name : GoodIn wsL_law wsX11_name := (goodIn_rs _ 24 [739, 100, 279, 107, 99, 115, 116, 238, 239, 240, 5, 241, 234, 235, 236, 237, 246, 247, 248, 249, 250, 258, 259, 260] (by decide +kernel) (by decide +kernel) (goodIn_rs _ 24 [261, 262, 103, 104, 105, 98, 106, 263, 264, 265, 266, 102, 101, 267, 268, 269, 270, 271, 272, 273, 274, 251, 252, 253] (by decide +kernel) (by decide +kernel) (goodIn_rs _ 24 [254, 255, 256, 257, 275, 276, 277, 278, 854, 855, 856, 857, 858, 859, 860, 861, 862, 863, 864, 865, 866, 867, 868, 869] (by decide +kernel) (by decide +kernel) (goodIn_r _ [870, 871, 872, 873, 874, 875, 876, 877, 878, 879, 880, 881] (by decide +kernel) (by decide +kernel)))))
set_option maxRecDepth 20000 in
theorem gL_law_X11_name : GoodIn wsL_law (wsV RL 147 RX11 yX11_name wsX11_name) := goodIn_app (goodIn_of _ (by decide +kernel)) ggL_law_X11_name
set_option maxRecDepth 20000 in
theorem ggL_law_L_spread : GoodIn wsL_law wsL_spread := goodIn_ca (goodIn_ca ((goodIn_rs _ 24 [742, 124, 125, 743, 744, 745, 2, 746, 42, 137, 138, 139, 140, 141, 142, 22, 143, 144, 145, 15, 146, 147, 156, 157] (by decide +kernel) (by decide +kernel) (goodIn_rs _ 24 [158, 159, 130, 131, 160, 161, 162, 163, 50, 164, 747, 748, 749, 41, 750, 92, 751, 752, 753, 754, 755, 93, 756, 442] (by decide +kernel) (by decide +kernel) (goodIn_rs _ 24 [443, 444, 48, 757, 758, 759, 760, 761, 307, 308, 309, 52, 762, 222, 223, 224, 844, 845, 846, 847, 848, 849, 850, 851] (by decide +kernel) (by decide +kernel) (goodIn_r _ [852, 853, 882, 883, 884, 885, 886, 903, 904, 905] (by decide +kernel) (by decide +kernel)))))) (goodIn_sub (fun _ h => List.mem_append_right _ h) (by decide +kernel))) (goodIn_sub (fun _ h => List.mem_append_left _ (List.mem_append_left _ (List.mem_append_right _ h))) (by decide +kernel))
set_option maxRecDepth 20000 in
theorem gL_law_L_spread : GoodIn wsL_law (va_wsS RL 148 yL_spread wsL_spread) := goodIn_app (goodIn_of _ (by decide +kernel)) ggL_law_L_spread
set_option maxRecDepth 20000 in
theorem ggL_law_X11_spread : GoodIn wsL_law wsX11_spread := (goodIn_rs _ 24 [766, 100, 117, 767, 234, 99, 238, 239, 240, 5, 241, 235, 236, 237, 246, 247, 248, 249, 250, 263, 264, 265, 266, 102] (by decide +kernel) (by decide +kernel) (goodIn_rs _ 24 [101, 854, 855, 856, 857, 858, 859, 860, 861, 862, 863, 864, 865, 866, 867, 868, 869, 870, 871, 872, 873, 874, 875, 876] (by decide +kernel) (by decide +kernel) (goodIn_r _ [877, 878, 879, 880, 881] (by decide +kernel) (by decide +kernel))))
set_option maxRecDepth 20000 in
theorem gL_law_X11_spread : GoodIn wsL_law (wsV RL 150 RX11 yX11_spread wsX11_spread) := goodIn_app (goodIn_of _ (by decide +kernel)) ggL_law_X11_spread
set_option maxRecDepth 20000 in
theorem ggL_law_X10_rounds : GoodIn wsL_law wsX10_rounds := goodIn_r _ [771, 42, 772, 773, 774, 41, 775, 751, 844, 845, 846, 847, 848, 849, 850, 851, 852, 853, 903, 904, 905] (by decide +kernel) (by decide +kernel)
set_option maxRecDepth 20000 in
theorem gL_law_X10_rounds : GoodIn wsL_law (wsV RL 151 RX10 yX10_rounds wsX10_rounds) := goodIn_app (goodIn_of _ (by decide +kernel)) ggL_law_X10_rounds
