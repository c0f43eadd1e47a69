theorem goodIn_rs {big : List Cond} (ws : List Cond) (n : Nat) (ps : List Nat) (hp : ws.take n = ps.filterMap (fun i => big[i]?)) (h : (ws.take n).all goodWord = true) (hr : GoodIn big (ws.drop n)) : GoodIn big ws := by
  have h1 := goodIn_app (goodIn_r (ws.take n) ps hp h) hr
  rw [List.take_append_drop] at h1
  exact h1
set_option maxRecDepth 20000 in
theorem ggL_law_X11_file : GoodIn wsL_law wsX11_file := (goodIn_rs _ 24 [452, 100, 453, 108, 109, 110, 238, 239, 240, 5, 241, 234, 235, 236, 237, 246, 247, 248, 249, 250, 454, 455, 456, 457] (by decide +kernel) (by decide +kernel) (goodIn_rs _ 24 [458, 459, 460, 461, 462, 463, 112, 111, 279, 107, 99, 464, 465, 466, 467, 258, 259, 260, 261, 262, 103, 104, 105, 98] (by decide +kernel) (by decide +kernel) (goodIn_rs _ 24 [106, 263, 264, 265, 266, 102, 101, 267, 268, 269, 270, 271, 272, 273, 274, 251, 252, 253, 254, 255, 256, 257, 275, 276] (by decide +kernel) (by decide +kernel) (goodIn_rs _ 24 [277, 278, 854, 855, 856, 857, 858, 859, 860, 861, 862, 863, 864, 865, 866, 867, 868, 869, 870, 871, 872, 873, 874, 875] (by decide +kernel) (by decide +kernel) (goodIn_r _ [876, 877, 878, 879, 880, 881] (by decide +kernel) (by decide +kernel))))))
set_option maxRecDepth 20000 in
theorem gL_law_X11_file : GoodIn wsL_law (wsV RL 113 RX11 yX11_file wsX11_file) := goodIn_app (goodIn_of _ (by decide +kernel)) ggL_law_X11_file
set_option maxRecDepth 20000 in
theorem ggL_law_L_piece : GoodIn wsL_law wsL_piece := goodIn_ca (goodIn_ca ((goodIn_rs _ 24 [470, 124, 123, 471, 472, 473, 2, 474, 135, 136, 475, 476, 477, 478, 141, 142, 30, 479, 480, 481, 482, 483, 484, 374] (by decide +kernel) (by decide +kernel) (goodIn_rs _ 24 [485, 383, 486, 487, 488, 489, 379, 415, 416, 417, 490, 491, 492, 493, 380, 494, 495, 496, 497, 381, 844, 845, 846, 847] (by decide +kernel) (by decide +kernel) (goodIn_r _ [848, 849, 850, 851, 852, 853, 906, 907, 908, 909, 910, 911] (by decide +kernel) (by decide +kernel))))) (goodIn_sub (fun _ h => List.mem_append_left _ (List.mem_append_right _ h)) (by decide +kernel))) (goodIn_sub (fun _ h => List.mem_append_right _ h) (by decide +kernel))
set_option maxRecDepth 20000 in
theorem gL_law_L_piece : GoodIn wsL_law (va_wsS RL 114 yL_piece wsL_piece) := goodIn_app (goodIn_of _ (by decide +kernel)) ggL_law_L_piece
set_option maxRecDepth 20000 in
theorem ggL_law_X11_piece : GoodIn wsL_law wsX11_piece := (goodIn_rs _ 24 [501, 109, 110, 111, 112, 502, 503, 504, 5, 505, 506, 507, 508, 509, 453, 235, 236, 237, 246, 247, 248, 249, 250, 854] (by decide +kernel) (by decide +kernel) (goodIn_rs _ 24 [855, 856, 857, 858, 859, 860, 861, 862, 863, 864, 865, 866, 867, 868, 869, 870, 871, 872, 873, 874, 875, 876, 877, 878] (by decide +kernel) (by decide +kernel) (goodIn_r _ [879, 880, 881] (by decide +kernel) (by decide +kernel))))
set_option maxRecDepth 20000 in
theorem gL_law_X11_piece : GoodIn wsL_law (wsV RL 116 RX11 yX11_piece wsX11_piece) := goodIn_app (goodIn_of _ (by decide +kernel)) ggL_law_X11_piece
set_option maxRecDepth 20000 in
theorem ggL_law_L_spoil : GoodIn wsL_law wsL_spoil := goodIn_ca (goodIn_ca ((goodIn_rs _ 24 [512, 124, 125, 513, 514, 515, 2, 516, 130, 131, 475, 476, 477, 478, 141, 142, 30, 479, 480, 481, 517, 412, 413, 374] (by decide +kernel) (by decide +kernel) (goodIn_rs _ 24 [414, 379, 415, 416, 417, 490, 491, 492, 493, 380, 518, 519, 520, 521, 844, 845, 846, 847, 848, 849, 850, 851, 852, 853] (by decide +kernel) (by decide +kernel) (goodIn_r _ [906, 907, 908, 909, 910, 911] (by decide +kernel) (by decide +kernel))))) (goodIn_sub (fun _ h => List.mem_append_left _ (List.mem_append_left _ (List.mem_append_right _ h))) (by decide +kernel))) (goodIn_sub (fun _ h => List.mem_append_right _ h) (by decide +kernel))
set_option maxRecDepth 20000 in
theorem gL_law_L_spoil : GoodIn wsL_law (va_wsS RL 117 yL_spoil wsL_spoil) := goodIn_app (goodIn_of _ (by decide +kernel)) ggL_law_L_spoil
