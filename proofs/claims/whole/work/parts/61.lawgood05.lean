set_option maxRecDepth 20000 in
theorem ggL_law_X11_spoil : GoodIn wsL_law wsX11_spoil := (goodIn_rs _ 24 [525, 110, 111, 502, 503, 504, 5, 505, 506, 507, 508, 509, 453, 235, 236, 237, 246, 247, 248, 249, 250, 854, 855, 856] (by decide +kernel) (by decide +kernel) (goodIn_rs _ 24 [857, 858, 859, 860, 861, 862, 863, 864, 865, 866, 867, 868, 869, 870, 871, 872, 873, 874, 875, 876, 877, 878, 879, 880] (by decide +kernel) (by decide +kernel) (goodIn_r _ [881] (by decide +kernel) (by decide +kernel))))
set_option maxRecDepth 20000 in
theorem gL_law_X11_spoil : GoodIn wsL_law (wsV RL 119 RX11 yX11_spoil wsX11_spoil) := goodIn_app (goodIn_of _ (by decide +kernel)) ggL_law_X11_spoil
set_option maxRecDepth 20000 in
theorem ggL_law_L_root : GoodIn wsL_law wsL_root := goodIn_ca ((goodIn_rs _ 24 [528, 124, 529, 530, 531, 2, 532, 475, 476, 477, 478, 141, 142, 30, 533, 534, 535, 374, 536, 387, 537, 538, 539, 386] (by decide +kernel) (by decide +kernel) (goodIn_r _ [540, 402, 844, 845, 846, 847, 848, 849, 850, 851, 852, 853, 906, 907, 908, 909, 910, 911, 912] (by decide +kernel) (by decide +kernel)))) (goodIn_sub (fun _ h => List.mem_append_right _ h) (by decide +kernel))
set_option maxRecDepth 20000 in
theorem gL_law_L_root : GoodIn wsL_law (va_wsS RL 120 yL_root wsL_root) := goodIn_app (goodIn_of _ (by decide +kernel)) ggL_law_L_root
set_option maxRecDepth 20000 in
theorem ggL_law_X11_root : GoodIn wsL_law wsX11_root := (goodIn_rs _ 24 [544, 113, 506, 507, 508, 5, 509, 453, 235, 236, 237, 246, 247, 248, 249, 250, 545, 546, 547, 548, 109, 464, 465, 466] (by decide +kernel) (by decide +kernel) (goodIn_rs _ 24 [467, 854, 855, 856, 857, 858, 859, 860, 861, 862, 863, 864, 865, 866, 867, 868, 869, 870, 871, 872, 873, 874, 875, 876] (by decide +kernel) (by decide +kernel) (goodIn_r _ [877, 878, 879, 880, 881] (by decide +kernel) (by decide +kernel))))
set_option maxRecDepth 20000 in
theorem gL_law_X11_root : GoodIn wsL_law (wsV RL 123 RX11 yX11_root wsX11_root) := goodIn_app (goodIn_of _ (by decide +kernel)) ggL_law_X11_root
set_option maxRecDepth 20000 in
theorem ggL_law_L_proof : GoodIn wsL_law wsL_proof := goodIn_ca (goodIn_ca ((goodIn_rs _ 24 [551, 124, 123, 552, 553, 554, 2, 555, 475, 476, 477, 478, 141, 142, 30, 479, 480, 481, 132, 133, 134, 135, 136, 533] (by decide +kernel) (by decide +kernel) (goodIn_rs _ 24 [534, 535, 374, 536, 387, 556, 557, 558, 386, 559, 402, 844, 845, 846, 847, 848, 849, 850, 851, 852, 853, 906, 907, 908] (by decide +kernel) (by decide +kernel) (goodIn_r _ [909, 910, 911, 912] (by decide +kernel) (by decide +kernel))))) (goodIn_sub (fun _ h => List.mem_append_right _ h) (by decide +kernel))) (goodIn_sub (fun _ h => List.mem_append_left _ (List.mem_append_right _ h)) (by decide +kernel))
set_option maxRecDepth 20000 in
theorem gL_law_L_proof : GoodIn wsL_law (va_wsS RL 124 yL_proof wsL_proof) := goodIn_app (goodIn_of _ (by decide +kernel)) ggL_law_L_proof
