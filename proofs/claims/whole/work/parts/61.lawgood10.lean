set_option maxRecDepth 20000 in
theorem ggL_law_X11_rounds : GoodIn wsL_law wsX11_rounds := (goodIn_rs _ 24 [779, 250, 767, 854, 855, 856, 857, 858, 859, 860, 861, 862, 863, 864, 865, 866, 867, 868, 869, 870, 871, 872, 873, 874] (by decide +kernel) (by decide +kernel) (goodIn_r _ [875, 876, 877, 878, 879, 880, 881] (by decide +kernel) (by decide +kernel)))
set_option maxRecDepth 20000 in
theorem gL_law_X11_rounds : GoodIn wsL_law (wsV RL 154 RX11 yX11_rounds wsX11_rounds) := goodIn_app (goodIn_of _ (by decide +kernel)) ggL_law_X11_rounds
set_option maxRecDepth 20000 in
theorem ggL_law_L_owes : GoodIn wsL_law wsL_owes := goodIn_ca ((goodIn_rs _ 24 [782, 124, 783, 784, 785, 2, 786, 24, 137, 138, 139, 140, 141, 142, 22, 143, 144, 145, 15, 146, 147, 787, 788, 789] (by decide +kernel) (by decide +kernel) (goodIn_r _ [21, 790, 73, 640, 641, 642, 844, 845, 846, 847, 848, 849, 850, 851, 852, 853, 882, 883, 884, 885, 886, 894] (by decide +kernel) (by decide +kernel)))) (goodIn_sub (fun _ h => List.mem_append_right _ h) (by decide +kernel))
set_option maxRecDepth 20000 in
theorem gL_law_L_owes : GoodIn wsL_law (va_wsS RL 155 yL_owes wsL_owes) := goodIn_app (goodIn_of _ (by decide +kernel)) ggL_law_L_owes
set_option maxRecDepth 20000 in
theorem ggL_law_X11_owes : GoodIn wsL_law wsX11_owes := (goodIn_rs _ 24 [794, 118, 238, 239, 240, 5, 241, 234, 235, 236, 237, 246, 247, 248, 249, 250, 854, 855, 856, 857, 858, 859, 860, 861] (by decide +kernel) (by decide +kernel) (goodIn_r _ [862, 863, 864, 865, 866, 867, 868, 869, 870, 871, 872, 873, 874, 875, 876, 877, 878, 879, 880, 881] (by decide +kernel) (by decide +kernel)))
set_option maxRecDepth 20000 in
theorem gL_law_X11_owes : GoodIn wsL_law (wsV RL 157 RX11 yX11_owes wsX11_owes) := goodIn_app (goodIn_of _ (by decide +kernel)) ggL_law_X11_owes
set_option maxRecDepth 20000 in
theorem ggL_law_X10_net : GoodIn wsL_law wsX10_net := (goodIn_rs _ 24 [798, 24, 799, 800, 801, 21, 802, 803, 804, 805, 806, 807, 808, 809, 810, 811, 788, 789, 790, 73, 640, 641, 642, 812] (by decide +kernel) (by decide +kernel) (goodIn_r _ [637, 638, 639, 813, 814, 815, 816, 844, 845, 846, 847, 848, 849, 850, 851, 852, 853, 894] (by decide +kernel) (by decide +kernel)))
set_option maxRecDepth 20000 in
theorem gL_law_X10_net : GoodIn wsL_law (wsV RL 158 RX10 yX10_net wsX10_net) := goodIn_app (goodIn_of _ (by decide +kernel)) ggL_law_X10_net
