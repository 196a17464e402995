set_option maxRecDepth 100000 in
theorem pK_0 : pT_0.all (pOkE 11 cX11_init) = true := by decide +kernel
set_option maxRecDepth 100000 in
theorem pK_1 : pT_1.all (pOkE 8 cX8_init) = true := by decide +kernel
set_option maxRecDepth 100000 in
theorem pK_2 : pT_2.all (pOkE 5 cX5_init) = true := by decide +kernel
set_option maxRecDepth 100000 in
theorem pK_3 : pT_3.all (pOkE 1 cX1_init) = true := by decide +kernel
set_option maxRecDepth 100000 in
theorem pK_4 : pT_4.all (pOkE 4 cX4_init) = true := by decide +kernel
set_option maxRecDepth 100000 in
theorem pK_5 : pT_5.all (pOkE 8 cX8_empty) = true := by decide +kernel
set_option maxRecDepth 100000 in
theorem pK_6 : pT_6.all (pOkE 7 cX7_init) = true := by decide +kernel
set_option maxRecDepth 100000 in
theorem pK_7 : pT_7.all (pOkE 10 cX10_init) = true := by decide +kernel
set_option maxRecDepth 100000 in
theorem pK_8 : pT_8.all (pOkE 14 cJ0_length_8abf5) = true := by decide +kernel
set_option maxRecDepth 100000 in
theorem pK_9 : pT_9.all (pOkE 14 cJ0_coder_7d493) = true := by decide +kernel
set_option maxRecDepth 100000 in
theorem pK_10 : pT_10.all (pOkE 14 cJ0_charAt_5068e) = true := by decide +kernel
set_option maxRecDepth 100000 in
theorem pK_11 : pT_11.all (pOkE 14 cJ0_isLatin1_aae02) = true := by decide +kernel
set_option maxRecDepth 100000 in
theorem pK_12 : pT_12.all (pOkE 15 cJ1_charAt_3b067) = true := by decide +kernel
set_option maxRecDepth 100000 in
theorem pK_13 : pT_13.all (pOkE 14 cJ0_checkIndex_df160) = true := by decide +kernel
set_option maxRecDepth 100000 in
theorem pK_14 : pT_14.all (pOkE 16 cJ3_checkIndex_8e157) = true := by decide +kernel
set_option maxRecDepth 100000 in
theorem pK_15 : pT_15.all (pOkE 10 cX10_lettersOf) = true := by decide +kernel
set_option maxRecDepth 100000 in
theorem pK_16 : pT_16.all (pOkE 3 cX3_init) = true := by decide +kernel
set_option maxRecDepth 100000 in
theorem pK_17 : pT_17.all (pOkE 6 cX6_init) = true := by decide +kernel
set_option maxRecDepth 100000 in
theorem pK_18 : pT_18.all (pOkE 0 cX0_init) = true := by decide +kernel
set_option maxRecDepth 100000 in
theorem pK_19 : pT_19.all (pOkE 9 cX9_init) = true := by decide +kernel
set_option maxRecDepth 100000 in
theorem pK_20 : pT_20.all (pOkE 2 cX2_init) = true := by decide +kernel
set_option maxRecDepth 100000 in
theorem pK_21 : pT_21.all (pOkE 11 cX11_begin) = true := by decide +kernel
set_option maxRecDepth 100000 in
theorem pK_22 : pT_22.all (pOkE 3 cX3_ofRoad) = true := by decide +kernel
set_option maxRecDepth 100000 in
theorem pK_23 : pT_23.all (pOkE 2 cX2_start) = true := by decide +kernel
set_option maxRecDepth 100000 in
theorem pK_24 : pT_24.all (pOkE 9 cX9_forgetAll) = true := by decide +kernel
set_option maxRecDepth 100000 in
theorem pK_25 : pT_25.all (pOkE 11 cX11_feed) = true := by decide +kernel
set_option maxRecDepth 100000 in
theorem pK_26 : pT_26.all (pOkE 11 cX11_addBytes) = true := by decide +kernel
set_option maxRecDepth 100000 in
theorem pK_27 : pT_27.all (pOkE 11 cX11_text) = true := by decide +kernel
set_option maxRecDepth 100000 in
theorem pK_28 : pT_28.all (pOkE 7 cX7_parse) = true := by decide +kernel
set_option maxRecDepth 100000 in
theorem pK_29 : pT_29.all (pOkE 10 cX10_begin) = true := by decide +kernel
set_option maxRecDepth 100000 in
theorem pK_30 : pT_30.all (pOkE 13 cJ9_min_7cf53) = true := by decide +kernel
set_option maxRecDepth 100000 in
theorem pK_31 : pT_31.all (pOkE 10 cX10_step) = true := by decide +kernel
set_option maxRecDepth 100000 in
theorem pK_32 : pT_32.all (pOkE 10 cX10_isLetter) = true := by decide +kernel
set_option maxRecDepth 100000 in
theorem pK_33 : pT_33.all (pOkE 10 cX10_readWord) = true := by decide +kernel
set_option maxRecDepth 100000 in
theorem pK_34 : pT_34.all (pOkE 10 cX10_kindOf) = true := by decide +kernel
set_option maxRecDepth 100000 in
theorem pK_35 : pT_35.all (pOkE 10 cX10_isDigit) = true := by decide +kernel
set_option maxRecDepth 100000 in
theorem pK_36 : pT_36.all (pOkE 10 cX10_readNumber) = true := by decide +kernel
set_option maxRecDepth 100000 in
theorem pK_37 : pT_37.all (pOkE 10 cX10_signOf) = true := by decide +kernel
set_option maxRecDepth 100000 in
theorem pK_38 : pT_38.all (pOkE 10 cX10_readSecondSign) = true := by decide +kernel
set_option maxRecDepth 100000 in
theorem pK_39 : pT_39.all (pOkE 7 cX7_readLine) = true := by decide +kernel
set_option maxRecDepth 100000 in
theorem pK_40 : pT_40.all (pOkE 7 cX7_isBelow) = true := by decide +kernel
set_option maxRecDepth 100000 in
theorem pK_41 : pT_41.all (pOkE 7 cX7_fails) = true := by decide +kernel
set_option maxRecDepth 100000 in
theorem pK_42 : pT_42.all (pOkE 7 cX7_readBend) = true := by decide +kernel
set_option maxRecDepth 100000 in
theorem pK_43 : pT_43.all (pOkE 8 cX8_findBend) = true := by decide +kernel
set_option maxRecDepth 100000 in
theorem pK_44 : pT_44.all (pOkE 7 cX7_isNewName) = true := by decide +kernel
set_option maxRecDepth 100000 in
theorem pK_45 : pT_45.all (pOkE 7 cX7_takesNumber) = true := by decide +kernel
set_option maxRecDepth 100000 in
theorem pK_46 : pT_46.all (pOkE 7 cX7_readWind) = true := by decide +kernel
set_option maxRecDepth 100000 in
theorem pK_47 : pT_47.all (pOkE 7 cX7_readGoods) = true := by decide +kernel
set_option maxRecDepth 100000 in
theorem pK_48 : pT_48.all (pOkE 8 cX8_findGoods) = true := by decide +kernel
set_option maxRecDepth 100000 in
theorem pK_49 : pT_49.all (pOkE 7 cX7_readBag) = true := by decide +kernel
set_option maxRecDepth 100000 in
theorem pK_50 : pT_50.all (pOkE 8 cX8_findSort) = true := by decide +kernel
set_option maxRecDepth 100000 in
theorem pK_51 : pT_51.all (pOkE 7 cX7_readDepot) = true := by decide +kernel
set_option maxRecDepth 100000 in
theorem pK_52 : pT_52.all (pOkE 7 cX7_bendToldAhead) = true := by decide +kernel
set_option maxRecDepth 100000 in
theorem pK_53 : pT_53.all (pOkE 7 cX7_readThief) = true := by decide +kernel
set_option maxRecDepth 100000 in
theorem pK_54 : pT_54.all (pOkE 7 cX7_isToldOnce) = true := by decide +kernel
set_option maxRecDepth 100000 in
theorem pK_55 : pT_55.all (pOkE 7 cX7_readWarm) = true := by decide +kernel
set_option maxRecDepth 100000 in
theorem pK_56 : pT_56.all (pOkE 7 cX7_readHorse) = true := by decide +kernel
set_option maxRecDepth 100000 in
theorem pK_57 : pT_57.all (pOkE 7 cX7_readRope) = true := by decide +kernel
set_option maxRecDepth 100000 in
theorem pK_58 : pT_58.all (pOkE 7 cX7_readStone) = true := by decide +kernel
set_option maxRecDepth 100000 in
theorem pK_59 : pT_59.all (pOkE 7 cX7_readSeed) = true := by decide +kernel
set_option maxRecDepth 100000 in
theorem pK_60 : pT_60.all (pOkE 7 cX7_readLaw) = true := by decide +kernel
set_option maxRecDepth 100000 in
theorem pK_61 : pT_61.all (pOkE 5 cX5_isTold) = true := by decide +kernel
set_option maxRecDepth 100000 in
theorem pK_62 : pT_62.all (pOkE 7 cX7_takesValue) = true := by decide +kernel
set_option maxRecDepth 100000 in
theorem pK_63 : pT_63.all (pOkE 5 cX5_add) = true := by decide +kernel
set_option maxRecDepth 100000 in
theorem pK_64 : pT_64.all (pOkE 7 cX7_isOneKnotMore) = true := by decide +kernel
set_option maxRecDepth 100000 in
theorem pK_65 : pT_65.all (pOkE 7 cX7_push) = true := by decide +kernel
set_option maxRecDepth 100000 in
theorem pK_66 : pT_66.all (pOkE 7 cX7_rankOnTop) = true := by decide +kernel
set_option maxRecDepth 100000 in
theorem pK_67 : pT_67.all (pOkE 7 cX7_rankOf) = true := by decide +kernel
set_option maxRecDepth 100000 in
theorem pK_68 : pT_68.all (pOkE 7 cX7_settle) = true := by decide +kernel
