set_option maxRecDepth 20000 in
theorem ggL_law_X11_net : GoodIn wsL_law wsX11_net := (goodIn_rs _ 24 [820, 250, 821, 822, 823, 5, 824, 234, 825, 826, 827, 828, 118, 854, 855, 856, 857, 858, 859, 860, 861, 862, 863, 864] (by decide +kernel) (by decide +kernel) (goodIn_r _ [865, 866, 867, 868, 869, 870, 871, 872, 873, 874, 875, 876, 877, 878, 879, 880, 881] (by decide +kernel) (by decide +kernel)))
set_option maxRecDepth 20000 in
theorem gL_law_X11_net : GoodIn wsL_law (wsV RL 161 RX11 yX11_net wsX11_net) := goodIn_app (goodIn_of _ (by decide +kernel)) ggL_law_X11_net
set_option maxRecDepth 20000 in
theorem ggL_law_L_worth : GoodIn wsL_law wsL_worth := goodIn_ca ((goodIn_rs _ 24 [831, 124, 832, 833, 834, 2, 835, 24, 137, 138, 139, 140, 141, 142, 22, 143, 144, 145, 15, 146, 147, 836, 837, 838] (by decide +kernel) (by decide +kernel) (goodIn_rs _ 24 [21, 839, 811, 788, 789, 790, 73, 640, 641, 642, 844, 845, 846, 847, 848, 849, 850, 851, 852, 853, 882, 883, 884, 885] (by decide +kernel) (by decide +kernel) (goodIn_r _ [886, 894] (by decide +kernel) (by decide +kernel))))) (goodIn_sub (fun _ h => List.mem_append_right _ h) (by decide +kernel))
set_option maxRecDepth 20000 in
theorem gL_law_L_worth : GoodIn wsL_law (va_wsS RL 162 yL_worth wsL_worth) := goodIn_app (goodIn_of _ (by decide +kernel)) ggL_law_L_worth
set_option maxRecDepth 20000 in
theorem ggL_law_X11_worth : GoodIn wsL_law wsX11_worth := (goodIn_rs _ 24 [843, 234, 118, 238, 239, 240, 5, 241, 235, 236, 237, 246, 247, 248, 249, 250, 854, 855, 856, 857, 858, 859, 860, 861] (by decide +kernel) (by decide +kernel) (goodIn_r _ [862, 863, 864, 865, 866, 867, 868, 869, 870, 871, 872, 873, 874, 875, 876, 877, 878, 879, 880, 881] (by decide +kernel) (by decide +kernel)))
set_option maxRecDepth 20000 in
theorem gL_law_X11_worth : GoodIn wsL_law (wsV RL 164 RX11 yX11_worth wsX11_worth) := goodIn_app (goodIn_of _ (by decide +kernel)) ggL_law_X11_worth
