set_option maxRecDepth 100000 in
theorem pK_131 : pT_131.all (pOkE 11 cX11_behind) = true := by decide +kernel
set_option maxRecDepth 100000 in
theorem pK_132 : pT_132.all (pOkE 11 cX11_ropes) = true := by decide +kernel
set_option maxRecDepth 100000 in
theorem pK_133 : pT_133.all (pOkE 11 cX11_meet) = true := by decide +kernel
set_option maxRecDepth 100000 in
theorem pK_134 : pT_134.all (pOkE 11 cX11_meetingBend) = true := by decide +kernel
set_option maxRecDepth 100000 in
theorem pK_135 : pT_135.all (pOkE 11 cX11_waits) = true := by decide +kernel
set_option maxRecDepth 100000 in
theorem pK_136 : pT_136.all (pOkE 11 cX11_worth) = true := by decide +kernel
set_option maxRecDepth 100000 in
theorem pK_137 : pT_137.all (pOkE 11 cX11_toll) = true := by decide +kernel
set_option maxRecDepth 100000 in
theorem pK_138 : pT_138.all (pOkE 6 cX6_priceForNone) = true := by decide +kernel
set_option maxRecDepth 100000 in
theorem pK_139 : pT_139.all (pOkE 6 cX6_canBeCarried) = true := by decide +kernel
set_option maxRecDepth 100000 in
theorem pK_140 : pT_140.all (pOkE 11 cX11_lands) = true := by decide +kernel
set_option maxRecDepth 100000 in
theorem pK_141 : pT_141.all (pOkE 8 cX8_windAt) = true := by decide +kernel
set_option maxRecDepth 100000 in
theorem pK_142 : pT_142.all (pOkE 11 cX11_see) = true := by decide +kernel
set_option maxRecDepth 100000 in
theorem pK_143 : pT_143.all (pOkE 9 cX9_add) = true := by decide +kernel
set_option maxRecDepth 100000 in
theorem pK_144 : pT_144.all (pOkE 11 cX11_strike) = true := by decide +kernel
set_option maxRecDepth 100000 in
theorem pK_145 : pT_145.all (pOkE 9 cX9_addStrike) = true := by decide +kernel
set_option maxRecDepth 100000 in
theorem pK_146 : pT_146.all (pOkE 11 cX11_known) = true := by decide +kernel
set_option maxRecDepth 100000 in
theorem pK_147 : pT_147.all (pOkE 11 cX11_fits) = true := by decide +kernel
set_option maxRecDepth 100000 in
theorem pK_148 : pT_148.all (pOkE 6 cX6_leaveThoseThatFit) = true := by decide +kernel
set_option maxRecDepth 100000 in
theorem pK_149 : pT_149.all (pOkE 9 cX9_findStruck) = true := by decide +kernel
set_option maxRecDepth 100000 in
theorem pK_150 : pT_150.all (pOkE 9 cX9_knownBy) = true := by decide +kernel
set_option maxRecDepth 100000 in
theorem pK_151 : pT_151.all (pOkE 9 cX9_isStrike) = true := by decide +kernel
set_option maxRecDepth 100000 in
theorem pK_152 : pT_152.all (pOkE 6 cX6_howMany) = true := by decide +kernel
set_option maxRecDepth 100000 in
theorem pK_153 : pT_153.all (pOkE 11 cX11_fit) = true := by decide +kernel
set_option maxRecDepth 100000 in
theorem pK_154 : pT_154.all (pOkE 6 cX6_findNumbered) = true := by decide +kernel
set_option maxRecDepth 100000 in
theorem pK_155 : pT_155.all (pOkE 11 cX11_sure) = true := by decide +kernel
set_option maxRecDepth 100000 in
theorem pK_156 : pT_156.all (pOkE 11 cX11_chance) = true := by decide +kernel
set_option maxRecDepth 100000 in
theorem pK_157 : pT_157.all (pOkE 2 cX2_becomes) = true := by decide +kernel
set_option maxRecDepth 100000 in
theorem pK_158 : pT_158.all (pOkE 11 cX11_tried) = true := by decide +kernel
set_option maxRecDepth 100000 in
theorem pK_159 : pT_159.all (pOkE 11 cX11_isTrial) = true := by decide +kernel
set_option maxRecDepth 100000 in
theorem pK_160 : pT_160.all (pOkE 11 cX11_undo) = true := by decide +kernel
set_option maxRecDepth 100000 in
theorem pK_161 : pT_161.all (pOkE 11 cX11_keep) = true := by decide +kernel
set_option maxRecDepth 100000 in
theorem pK_162 : pT_162.all (pOkE 11 cX11_back) = true := by decide +kernel
set_option maxRecDepth 100000 in
theorem pK_163 : pT_163.all (pOkE 11 cX11_count) = true := by decide +kernel
set_option maxRecDepth 100000 in
theorem pK_164 : pT_164.all (pOkE 2 cX2_stonesAtDepots) = true := by decide +kernel
set_option maxRecDepth 100000 in
theorem pK_165 : pT_165.all (pOkE 11 cX11_look) = true := by decide +kernel
set_option maxRecDepth 100000 in
theorem pK_166 : pT_166.all (pOkE 12 cX12_init) = true := by decide +kernel
set_option maxRecDepth 100000 in
theorem pK_167 : pT_167.all (pOkE 12 cX12_begins) = true := by decide +kernel
set_option maxRecDepth 100000 in
theorem pK_168 : pT_168.all (pOkE 12 cX12_feed) = true := by decide +kernel
set_option maxRecDepth 100000 in
theorem pK_169 : pT_169.all (pOkE 12 cX12_text) = true := by decide +kernel
set_option maxRecDepth 100000 in
theorem pK_170 : pT_170.all (pOkE 12 cX12_reads) = true := by decide +kernel
set_option maxRecDepth 100000 in
theorem pK_171 : pT_171.all (pOkE 12 cX12_token) = true := by decide +kernel
set_option maxRecDepth 100000 in
theorem pK_172 : pT_172.all (pOkE 12 cX12_here) = true := by decide +kernel
