set_option maxRecDepth 100000 in
theorem pK_173 : pT_173.all (pOkE 12 cX12_isSmall) = true := by decide +kernel
set_option maxRecDepth 100000 in
theorem pK_174 : pT_174.all (pOkE 12 cX12_word) = true := by decide +kernel
set_option maxRecDepth 100000 in
theorem pK_175 : pT_175.all (pOkE 12 cX12_name) = true := by decide +kernel
set_option maxRecDepth 100000 in
theorem pK_176 : pT_176.all (pOkE 12 cX12_isDigit) = true := by decide +kernel
set_option maxRecDepth 100000 in
theorem pK_177 : pT_177.all (pOkE 12 cX12_sign) = true := by decide +kernel
set_option maxRecDepth 100000 in
theorem pK_178 : pT_178.all (pOkE 12 cX12_line) = true := by decide +kernel
set_option maxRecDepth 100000 in
theorem pK_179 : pT_179.all (pOkE 12 cX12_wrong) = true := by decide +kernel
set_option maxRecDepth 100000 in
theorem pK_180 : pT_180.all (pOkE 12 cX12_isFull) = true := by decide +kernel
set_option maxRecDepth 100000 in
theorem pK_181 : pT_181.all (pOkE 12 cX12_fresher) = true := by decide +kernel
set_option maxRecDepth 100000 in
theorem pK_182 : pT_182.all (pOkE 12 cX12_bendLine) = true := by decide +kernel
set_option maxRecDepth 100000 in
theorem pK_183 : pT_183.all (pOkE 12 cX12_fresh) = true := by decide +kernel
set_option maxRecDepth 100000 in
theorem pK_184 : pT_184.all (pOkE 12 cX12_found) = true := by decide +kernel
set_option maxRecDepth 100000 in
theorem pK_185 : pT_185.all (pOkE 12 cX12_numeral) = true := by decide +kernel
set_option maxRecDepth 100000 in
theorem pK_186 : pT_186.all (pOkE 12 cX12_isWord) = true := by decide +kernel
set_option maxRecDepth 100000 in
theorem pK_187 : pT_187.all (pOkE 12 cX12_isSign) = true := by decide +kernel
set_option maxRecDepth 100000 in
theorem pK_188 : pT_188.all (pOkE 12 cX12_bendAtHand) = true := by decide +kernel
set_option maxRecDepth 100000 in
theorem pK_189 : pT_189.all (pOkE 12 cX12_goOn) = true := by decide +kernel
set_option maxRecDepth 100000 in
theorem pK_190 : pT_190.all (pOkE 12 cX12_warmLine) = true := by decide +kernel
set_option maxRecDepth 100000 in
theorem pK_191 : pT_191.all (pOkE 12 cX12_lawLine) = true := by decide +kernel
set_option maxRecDepth 100000 in
theorem pK_192 : pT_192.all (pOkE 12 cX12_expression) = true := by decide +kernel
set_option maxRecDepth 100000 in
theorem pK_193 : pT_193.all (pOkE 12 cX12_conjunction) = true := by decide +kernel
set_option maxRecDepth 100000 in
theorem pK_194 : pT_194.all (pOkE 12 cX12_negation) = true := by decide +kernel
set_option maxRecDepth 100000 in
theorem pK_195 : pT_195.all (pOkE 12 cX12_knot) = true := by decide +kernel
set_option maxRecDepth 100000 in
theorem pK_196 : pT_196.all (pOkE 12 cX12_puts) = true := by decide +kernel
set_option maxRecDepth 100000 in
theorem pK_197 : pT_197.all (pOkE 12 cX12_sum) = true := by decide +kernel
set_option maxRecDepth 100000 in
theorem pK_198 : pT_198.all (pOkE 12 cX12_product) = true := by decide +kernel
set_option maxRecDepth 100000 in
theorem pK_199 : pT_199.all (pOkE 12 cX12_primary) = true := by decide +kernel
set_option maxRecDepth 100000 in
theorem pK_200 : pT_200.all (pOkE 12 cX12_half) = true := by decide +kernel
set_option maxRecDepth 100000 in
theorem pK_201 : pT_201.all (pOkE 12 cX12_fault) = true := by decide +kernel
set_option maxRecDepth 100000 in
theorem pK_202 : pT_202.all (pOkE 12 cX12_named) = true := by decide +kernel
set_option maxRecDepth 100000 in
theorem pK_203 : pT_203.all (pOkE 12 cX12_look) = true := by decide +kernel
set_option maxRecDepth 100000 in
theorem pK_204 : pT_204.all (pOkE 12 cX12_isBend) = true := by decide +kernel
set_option maxRecDepth 100000 in
theorem pK_205 : pT_205.all (pOkE 12 cX12_slopeTo) = true := by decide +kernel
set_option maxRecDepth 100000 in
theorem pK_206 : pT_206.all (pOkE 12 cX12_goods) = true := by decide +kernel
set_option maxRecDepth 100000 in
theorem pK_207 : pT_207.all (pOkE 12 cX12_isGoods) = true := by decide +kernel
set_option maxRecDepth 100000 in
theorem pK_208 : pT_208.all (pOkE 12 cX12_bag) = true := by decide +kernel
set_option maxRecDepth 100000 in
theorem pK_209 : pT_209.all (pOkE 12 cX12_isSort) = true := by decide +kernel
set_option maxRecDepth 100000 in
theorem pK_210 : pT_210.all (pOkE 12 cX12_lift) = true := by decide +kernel
set_option maxRecDepth 100000 in
theorem pK_211 : pT_211.all (pOkE 12 cX12_isHour) = true := by decide +kernel
set_option maxRecDepth 100000 in
theorem pK_212 : pT_212.all (pOkE 12 cX12_liftOf) = true := by decide +kernel
set_option maxRecDepth 100000 in
theorem pK_213 : pT_213.all (pOkE 12 cX12_calls) = true := by decide +kernel
set_option maxRecDepth 100000 in
theorem pK_214 : pT_214.all (pOkE 12 cX12_within) = true := by decide +kernel
set_option maxRecDepth 100000 in
theorem pK_215 : pT_215.all (pOkE 12 cX12_hasLaw) = true := by decide +kernel
set_option maxRecDepth 100000 in
theorem pK_216 : pT_216.all (pOkE 12 cX12_goes) = true := by decide +kernel
set_option maxRecDepth 100000 in
theorem pK_217 : pT_217.all (pOkE 12 cX12_works) = true := by decide +kernel
set_option maxRecDepth 100000 in
theorem pK_218 : pT_218.all (pOkE 12 cX12_is) = true := by decide +kernel
set_option maxRecDepth 100000 in
theorem pK_219 : pT_219.all (pOkE 13 cJ9_abs_067f4) = true := by decide +kernel
set_option maxRecDepth 100000 in
theorem pK_220 : pT_220.all (pOkE 12 cX12_pull) = true := by decide +kernel
set_option maxRecDepth 100000 in
theorem pK_221 : pT_221.all (pOkE 12 cX12_pullOf) = true := by decide +kernel
set_option maxRecDepth 100000 in
theorem pK_222 : pT_222.all (pOkE 12 cX12_strong) = true := by decide +kernel
set_option maxRecDepth 100000 in
theorem pK_223 : pT_223.all (pOkE 12 cX12_net) = true := by decide +kernel
set_option maxRecDepth 100000 in
theorem pK_224 : pT_224.all (pOkE 12 cX12_layLaws) = true := by decide +kernel
set_option maxRecDepth 100000 in
theorem pK_225 : pT_225.all (pOkE 12 cX12_netOf) = true := by decide +kernel
set_option maxRecDepth 100000 in
theorem pK_226 : pT_226.all (pOkE 12 cX12_law) = true := by decide +kernel
set_option maxRecDepth 100000 in
theorem pK_227 : pT_227.all (pOkE 12 cX12_load) = true := by decide +kernel
set_option maxRecDepth 100000 in
theorem pK_228 : pT_228.all (pOkE 12 cX12_isBelow) = true := by decide +kernel
