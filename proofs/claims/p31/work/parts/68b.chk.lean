set_option maxRecDepth 100000 in
theorem pK_69 : pT_69.all (pOkE 7 cX7_takesSign) = true := by decide +kernel
set_option maxRecDepth 100000 in
theorem pK_70 : pT_70.all (pOkE 11 cX11_fault) = true := by decide +kernel
set_option maxRecDepth 100000 in
theorem pK_71 : pT_71.all (pOkE 11 cX11_named) = true := by decide +kernel
set_option maxRecDepth 100000 in
theorem pK_72 : pT_72.all (pOkE 11 cX11_goods) = true := by decide +kernel
set_option maxRecDepth 100000 in
theorem pK_73 : pT_73.all (pOkE 11 cX11_isGoods) = true := by decide +kernel
set_option maxRecDepth 100000 in
theorem pK_74 : pT_74.all (pOkE 11 cX11_bag) = true := by decide +kernel
set_option maxRecDepth 100000 in
theorem pK_75 : pT_75.all (pOkE 11 cX11_isSort) = true := by decide +kernel
set_option maxRecDepth 100000 in
theorem pK_76 : pT_76.all (pOkE 11 cX11_lift) = true := by decide +kernel
set_option maxRecDepth 100000 in
theorem pK_77 : pT_77.all (pOkE 11 cX11_isBend) = true := by decide +kernel
set_option maxRecDepth 100000 in
theorem pK_78 : pT_78.all (pOkE 11 cX11_isHour) = true := by decide +kernel
set_option maxRecDepth 100000 in
theorem pK_79 : pT_79.all (pOkE 3 cX3_lifted) = true := by decide +kernel
set_option maxRecDepth 100000 in
theorem pK_80 : pT_80.all (pOkE 3 cX3_worked) = true := by decide +kernel
set_option maxRecDepth 100000 in
theorem pK_81 : pT_81.all (pOkE 13 cJ9_abs_0f7a4) = true := by decide +kernel
set_option maxRecDepth 100000 in
theorem pK_82 : pT_82.all (pOkE 8 cX8_slopeTo) = true := by decide +kernel
set_option maxRecDepth 100000 in
theorem pK_83 : pT_83.all (pOkE 13 cJ9_max_7cf53) = true := by decide +kernel
set_option maxRecDepth 100000 in
theorem pK_84 : pT_84.all (pOkE 5 cX5_work) = true := by decide +kernel
set_option maxRecDepth 100000 in
theorem pK_85 : pT_85.all (pOkE 5 cX5_joined) = true := by decide +kernel
set_option maxRecDepth 100000 in
theorem pK_86 : pT_86.all (pOkE 13 cJ9_min_f86c9) = true := by decide +kernel
set_option maxRecDepth 100000 in
theorem pK_87 : pT_87.all (pOkE 13 cJ9_max_f86c9) = true := by decide +kernel
set_option maxRecDepth 100000 in
theorem pK_88 : pT_88.all (pOkE 11 cX11_pull) = true := by decide +kernel
set_option maxRecDepth 100000 in
theorem pK_89 : pT_89.all (pOkE 3 cX3_pulled) = true := by decide +kernel
set_option maxRecDepth 100000 in
theorem pK_90 : pT_90.all (pOkE 11 cX11_net) = true := by decide +kernel
set_option maxRecDepth 100000 in
theorem pK_91 : pT_91.all (pOkE 2 cX2_weighs) = true := by decide +kernel
set_option maxRecDepth 100000 in
theorem pK_92 : pT_92.all (pOkE 8 cX8_weightOf) = true := by decide +kernel
set_option maxRecDepth 100000 in
theorem pK_93 : pT_93.all (pOkE 3 cX3_bagsLift) = true := by decide +kernel
set_option maxRecDepth 100000 in
theorem pK_94 : pT_94.all (pOkE 11 cX11_law) = true := by decide +kernel
set_option maxRecDepth 100000 in
theorem pK_95 : pT_95.all (pOkE 11 cX11_load) = true := by decide +kernel
set_option maxRecDepth 100000 in
theorem pK_96 : pT_96.all (pOkE 11 cX11_canBeLoaded) = true := by decide +kernel
set_option maxRecDepth 100000 in
theorem pK_97 : pT_97.all (pOkE 11 cX11_remember) = true := by decide +kernel
set_option maxRecDepth 100000 in
theorem pK_98 : pT_98.all (pOkE 11 cX11_tie) = true := by decide +kernel
set_option maxRecDepth 100000 in
theorem pK_99 : pT_99.all (pOkE 11 cX11_stones) = true := by decide +kernel
set_option maxRecDepth 100000 in
theorem pK_100 : pT_100.all (pOkE 11 cX11_at) = true := by decide +kernel
set_option maxRecDepth 100000 in
theorem pK_101 : pT_101.all (pOkE 11 cX11_go) = true := by decide +kernel
set_option maxRecDepth 100000 in
theorem pK_102 : pT_102.all (pOkE 11 cX11_hasWays) = true := by decide +kernel
set_option maxRecDepth 100000 in
theorem pK_103 : pT_103.all (pOkE 2 cX2_hourGoesBy) = true := by decide +kernel
set_option maxRecDepth 100000 in
theorem pK_104 : pT_104.all (pOkE 2 cX2_meetThief) = true := by decide +kernel
set_option maxRecDepth 100000 in
theorem pK_105 : pT_105.all (pOkE 11 cX11_trade) = true := by decide +kernel
set_option maxRecDepth 100000 in
theorem pK_106 : pT_106.all (pOkE 11 cX11_led) = true := by decide +kernel
set_option maxRecDepth 100000 in
theorem pK_107 : pT_107.all (pOkE 3 cX3_wayFrom) = true := by decide +kernel
set_option maxRecDepth 100000 in
theorem pK_108 : pT_108.all (pOkE 11 cX11_when) = true := by decide +kernel
set_option maxRecDepth 100000 in
theorem pK_109 : pT_109.all (pOkE 11 cX11_hoursUp) = true := by decide +kernel
set_option maxRecDepth 100000 in
theorem pK_110 : pT_110.all (pOkE 11 cX11_span) = true := by decide +kernel
set_option maxRecDepth 100000 in
theorem pK_111 : pT_111.all (pOkE 11 cX11_rowFrom) = true := by decide +kernel
set_option maxRecDepth 100000 in
theorem pK_112 : pT_112.all (pOkE 11 cX11_most) = true := by decide +kernel
set_option maxRecDepth 100000 in
theorem pK_113 : pT_113.all (pOkE 6 cX6_leaveThoseUp) = true := by decide +kernel
set_option maxRecDepth 100000 in
theorem pK_114 : pT_114.all (pOkE 6 cX6_leaveAll) = true := by decide +kernel
set_option maxRecDepth 100000 in
theorem pK_115 : pT_115.all (pOkE 8 cX8_hasBags) = true := by decide +kernel
set_option maxRecDepth 100000 in
theorem pK_116 : pT_116.all (pOkE 6 cX6_isLeft) = true := by decide +kernel
set_option maxRecDepth 100000 in
theorem pK_117 : pT_117.all (pOkE 6 cX6_narrow) = true := by decide +kernel
set_option maxRecDepth 100000 in
theorem pK_118 : pT_118.all (pOkE 6 cX6_findBest) = true := by decide +kernel
set_option maxRecDepth 100000 in
theorem pK_119 : pT_119.all (pOkE 8 cX8_gainOf) = true := by decide +kernel
set_option maxRecDepth 100000 in
theorem pK_120 : pT_120.all (pOkE 4 cX4_gain) = true := by decide +kernel
set_option maxRecDepth 100000 in
theorem pK_121 : pT_121.all (pOkE 6 cX6_howManyStones) = true := by decide +kernel
set_option maxRecDepth 100000 in
theorem pK_122 : pT_122.all (pOkE 6 cX6_mostStones) = true := by decide +kernel
set_option maxRecDepth 100000 in
theorem pK_123 : pT_123.all (pOkE 13 cJ9_floorDiv_7cf53) = true := by decide +kernel
set_option maxRecDepth 100000 in
theorem pK_124 : pT_124.all (pOkE 6 cX6_fewestStones) = true := by decide +kernel
set_option maxRecDepth 100000 in
theorem pK_125 : pT_125.all (pOkE 11 cX11_ballast) = true := by decide +kernel
set_option maxRecDepth 100000 in
theorem pK_126 : pT_126.all (pOkE 0 cX0_plan) = true := by decide +kernel
set_option maxRecDepth 100000 in
theorem pK_127 : pT_127.all (pOkE 0 cX0_mostBehind) = true := by decide +kernel
set_option maxRecDepth 100000 in
theorem pK_128 : pT_128.all (pOkE 0 cX0_choose) = true := by decide +kernel
set_option maxRecDepth 100000 in
theorem pK_129 : pT_129.all (pOkE 0 cX0_costOf) = true := by decide +kernel
set_option maxRecDepth 100000 in
theorem pK_130 : pT_130.all (pOkE 0 cX0_follow) = true := by decide +kernel
