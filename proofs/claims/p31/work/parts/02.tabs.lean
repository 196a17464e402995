/-! THE PROGRAM AS TABLES (by program, wip/p1/mk.py, out of the printed names). -/
abbrev pEn : Type := Nat × Instr × Nat × Nat
abbrev pMe : Type := Nat × MethodName × ByteArray × Nat × Option FieldType × Nat
def pR : Nat → String := fun c => match c with
  | 0 => RX0
  | 1 => RX1
  | 2 => RX2
  | 3 => RX3
  | 4 => RX4
  | 5 => RX5
  | 6 => RX6
  | 7 => RX7
  | 8 => RX8
  | 9 => RX9
  | 10 => RX10
  | 11 => RX11
  | 12 => RX12
  | 13 => RJ9
  | 14 => RJ0
  | 15 => RJ1
  | _ => RJ3
def pT : Nat → u_T := fun c => match c with
  | 0 => TX0
  | 1 => TX1
  | 2 => TX2
  | 3 => TX3
  | 4 => TX4
  | 5 => TX5
  | 6 => TX6
  | 7 => TX7
  | 8 => TX8
  | 9 => TX9
  | 10 => TX10
  | 11 => TX11
  | 12 => TX12
  | _ => TX12
def pTy : Nat → (Nat → FieldType) := fun c => match c with
  | 0 => tyX0
  | 1 => tyX1
  | 2 => tyX2
  | 3 => tyX3
  | 4 => tyX4
  | 5 => tyX5
  | 6 => tyX6
  | 7 => tyX7
  | 8 => tyX8
  | 9 => tyX9
  | 10 => tyX10
  | 11 => tyX11
  | 12 => tyX12
  | _ => tyX12
def pN : Nat → Nat := fun c => match c with
  | 0 => 4
  | 1 => 6
  | 2 => 8
  | 3 => 8
  | 4 => 4
  | 5 => 2
  | 6 => 9
  | 7 => 11
  | 8 => 18
  | 9 => 8
  | 10 => 7
  | 11 => 19
  | 12 => 76
  | _ => 0
theorem goodIn_up {big b2 ws : List Cond} (h : ∀ w ∈ b2, w ∈ big) (hg : GoodIn b2 ws) : GoodIn big ws := fun w hw => ⟨h w (hg w hw).1, (hg w hw).2⟩
theorem goodIn_ma {α : Type} {big : List Cond} {a b : List α} {f : α → Cond} (ha : GoodIn big (a.map f)) (hb : GoodIn big (b.map f)) : GoodIn big ((a ++ b).map f) := by
  rw [List.map_append]
  exact goodIn_app ha hb
theorem gi_c {big l : List Cond} {a : Cond} (h : a ∈ big) (hg : goodWord a = true) (t : GoodIn big l) : GoodIn big (a :: l) := fun w hw => (List.mem_cons.mp hw).elim (fun e => e ▸ ⟨h, good_of_word hg⟩) (t w)
theorem gi_n {big : List Cond} : GoodIn big [] := fun _ h => nomatch h
theorem pt_0 : ∀ w ∈ k2_sels lw_privs, w ∈ lw_tbl := fun _ h => List.mem_append_left _ h
theorem pt_1 : ∀ w ∈ tables_1_1, w ∈ lw_tbl := fun _ h => List.mem_append_right _ (List.mem_append_left _ h)
theorem pt_2 : ∀ w ∈ tables_1_2, w ∈ lw_tbl := fun _ h => List.mem_append_right _ (List.mem_append_right _ (List.mem_append_left _ h))
theorem pt_3 : ∀ w ∈ tables_1_3, w ∈ lw_tbl := fun _ h => List.mem_append_right _ (List.mem_append_right _ (List.mem_append_right _ (List.mem_append_left _ h)))
theorem pt_4 : ∀ w ∈ tables_1_4, w ∈ lw_tbl := fun _ h => List.mem_append_right _ (List.mem_append_right _ (List.mem_append_right _ (List.mem_append_right _ (List.mem_append_left _ h))))
theorem pt_5 : ∀ w ∈ tables_1_5, w ∈ lw_tbl := fun _ h => List.mem_append_right _ (List.mem_append_right _ (List.mem_append_right _ (List.mem_append_right _ (List.mem_append_right _ (List.mem_append_left _ h)))))
theorem pt_6 : ∀ w ∈ tables_1_6, w ∈ lw_tbl := fun _ h => List.mem_append_right _ (List.mem_append_right _ (List.mem_append_right _ (List.mem_append_right _ (List.mem_append_right _ (List.mem_append_right _ (List.mem_append_left _ h))))))
theorem pt_7 : ∀ w ∈ tables_1_7, w ∈ lw_tbl := fun _ h => List.mem_append_right _ (List.mem_append_right _ (List.mem_append_right _ (List.mem_append_right _ (List.mem_append_right _ (List.mem_append_right _ (List.mem_append_right _ (List.mem_append_left _ h)))))))
theorem pt_8 : ∀ w ∈ tables_1_8, w ∈ lw_tbl := fun _ h => List.mem_append_right _ (List.mem_append_right _ (List.mem_append_right _ (List.mem_append_right _ (List.mem_append_right _ (List.mem_append_right _ (List.mem_append_right _ (List.mem_append_right _ (List.mem_append_left _ h))))))))
theorem pt_9 : ∀ w ∈ tables_1_9, w ∈ lw_tbl := fun _ h => List.mem_append_right _ (List.mem_append_right _ (List.mem_append_right _ (List.mem_append_right _ (List.mem_append_right _ (List.mem_append_right _ (List.mem_append_right _ (List.mem_append_right _ (List.mem_append_right _ (h)))))))))
def pMs_0 : List pMe := [(11, yX11_init, cX11_init, 1, none, 0), (8, yX8_init, cX8_init, 2, none, 0), (5, yX5_init, cX5_init, 1, none, 0),
  (1, yX1_init, cX1_init, 1, none, 0), (4, yX4_init, cX4_init, 1, none, 0), (8, yX8_empty, cX8_empty, 2, none, 0),
  (7, yX7_init, cX7_init, 3, none, 2)]
def pMs_1 : List pMe := [(10, yX10_init, cX10_init, 5, none, 1), (14, yJ0_length_8abf5, cJ0_length_8abf5, 1, (some .int), 0), (14, yJ0_coder_7d493, cJ0_coder_7d493, 1, (some .byte), 0),
  (14, yJ0_charAt_5068e, cJ0_charAt_5068e, 2, (some .char), 1), (14, yJ0_isLatin1_aae02, cJ0_isLatin1_aae02, 1, (some .boolean), 0), (15, yJ1_charAt_3b067, cJ1_charAt_3b067, 2, (some .char), 2),
  (14, yJ0_checkIndex_df160, cJ0_checkIndex_df160, 2, none, 2), (16, yJ3_checkIndex_8e157, cJ3_checkIndex_8e157, 3, (some .int), 3), (10, yX10_lettersOf, cX10_lettersOf, 5, (some .int), 2),
  (3, yX3_init, cX3_init, 2, none, 1), (6, yX6_init, cX6_init, 2, none, 1), (0, yX0_init, cX0_init, 1, none, 0)]
def pMs_2 : List pMe := [(9, yX9_init, cX9_init, 1, none, 0)]
def pMs_3 : List pMe := [(2, yX2_init, cX2_init, 1, none, 0), (11, yX11_begin, cX11_begin, 1, none, 0), (3, yX3_ofRoad, cX3_ofRoad, 6, none, 4),
  (2, yX2_start, cX2_start, 3, none, 1), (9, yX9_forgetAll, cX9_forgetAll, 1, none, 0), (11, yX11_feed, cX11_feed, 6, (some .int), 5),
  (11, yX11_addBytes, cX11_addBytes, 2, none, 1), (11, yX11_text, cX11_text, 4, (some .int), 1), (7, yX7_parse, cX7_parse, 4, (some .boolean), 2),
  (10, yX10_begin, cX10_begin, 2, none, 1), (13, yJ9_min_7cf53, cJ9_min_7cf53, 2, (some .int), 2), (10, yX10_step, cX10_step, 1, none, 0)]
def pMs_4 : List pMe := [(10, yX10_isLetter, cX10_isLetter, 1, (some .boolean), 1), (10, yX10_readWord, cX10_readWord, 2, none, 0), (10, yX10_kindOf, cX10_kindOf, 3, (some .int), 1),
  (10, yX10_isDigit, cX10_isDigit, 1, (some .boolean), 1), (10, yX10_readNumber, cX10_readNumber, 2, none, 0), (10, yX10_signOf, cX10_signOf, 1, (some .int), 1),
  (10, yX10_readSecondSign, cX10_readSecondSign, 1, none, 0), (7, yX7_readLine, cX7_readLine, 1, (some .boolean), 0), (7, yX7_isBelow, cX7_isBelow, 3, (some .boolean), 2),
  (7, yX7_fails, cX7_fails, 2, (some .boolean), 1), (7, yX7_readBend, cX7_readBend, 2, (some .boolean), 0), (8, yX8_findBend, cX8_findBend, 3, (some .int), 1)]
def pMs_5 : List pMe := [(7, yX7_isNewName, cX7_isNewName, 2, (some .boolean), 1), (7, yX7_takesNumber, cX7_takesNumber, 3, (some .boolean), 2), (7, yX7_readWind, cX7_readWind, 2, (some .boolean), 0),
  (7, yX7_readGoods, cX7_readGoods, 2, (some .boolean), 0), (8, yX8_findGoods, cX8_findGoods, 3, (some .int), 1), (7, yX7_readBag, cX7_readBag, 2, (some .boolean), 0),
  (8, yX8_findSort, cX8_findSort, 3, (some .int), 1), (7, yX7_readDepot, cX7_readDepot, 2, (some .boolean), 0), (7, yX7_bendToldAhead, cX7_bendToldAhead, 3, (some .int), 1),
  (7, yX7_readThief, cX7_readThief, 2, (some .boolean), 0)]
def pMs_6 : List pMe := [(7, yX7_isToldOnce, cX7_isToldOnce, 2, (some .boolean), 0), (7, yX7_readWarm, cX7_readWarm, 2, (some .boolean), 0), (7, yX7_readHorse, cX7_readHorse, 1, (some .boolean), 0),
  (7, yX7_readRope, cX7_readRope, 1, (some .boolean), 0), (7, yX7_readStone, cX7_readStone, 1, (some .boolean), 0), (7, yX7_readSeed, cX7_readSeed, 1, (some .boolean), 0),
  (7, yX7_readLaw, cX7_readLaw, 4, (some .boolean), 0), (5, yX5_isTold, cX5_isTold, 1, (some .boolean), 0), (7, yX7_takesValue, cX7_takesValue, 3, (some .boolean), 1),
  (5, yX5_add, cX5_add, 2, none, 1), (7, yX7_isOneKnotMore, cX7_isOneKnotMore, 1, (some .boolean), 0), (7, yX7_push, cX7_push, 2, none, 1)]
def pMs_7 : List pMe := [(7, yX7_rankOnTop, cX7_rankOnTop, 1, (some .int), 0), (7, yX7_rankOf, cX7_rankOf, 1, (some .int), 1), (7, yX7_settle, cX7_settle, 3, none, 2),
  (7, yX7_takesSign, cX7_takesSign, 3, (some .boolean), 1), (11, yX11_fault, cX11_fault, 2, (some .int), 1), (11, yX11_named, cX11_named, 3, (some .int), 2),
  (11, yX11_goods, cX11_goods, 4, (some .int), 2), (11, yX11_isGoods, cX11_isGoods, 2, (some .boolean), 1), (11, yX11_bag, cX11_bag, 3, (some .int), 2),
  (11, yX11_isSort, cX11_isSort, 2, (some .boolean), 1), (11, yX11_lift, cX11_lift, 4, (some .int), 3), (11, yX11_isBend, cX11_isBend, 2, (some .boolean), 1)]
def pMs_8 : List pMe := [(11, yX11_isHour, cX11_isHour, 1, (some .boolean), 1), (3, yX3_lifted, cX3_lifted, 8, (some .int), 3), (3, yX3_worked, cX3_worked, 6, (some .long), 4),
  (13, yJ9_abs_0f7a4, cJ9_abs_0f7a4, 1, (some .int), 1), (8, yX8_slopeTo, cX8_slopeTo, 2, (some .int), 1), (13, yJ9_max_7cf53, cJ9_max_7cf53, 2, (some .int), 2),
  (5, yX5_work, cX5_work, 8, (some .long), 2), (5, yX5_joined, cX5_joined, 5, (some .long), 3), (13, yJ9_min_f86c9, cJ9_min_f86c9, 4, (some .long), 2),
  (13, yJ9_max_f86c9, cJ9_max_f86c9, 4, (some .long), 2), (11, yX11_pull, cX11_pull, 3, (some .int), 2), (3, yX3_pulled, cX3_pulled, 7, (some .int), 2)]
def pMs_9 : List pMe := [(11, yX11_net, cX11_net, 3, (some .int), 2), (2, yX2_weighs, cX2_weighs, 2, (some .int), 1), (8, yX8_weightOf, cX8_weightOf, 4, (some .int), 1),
  (3, yX3_bagsLift, cX3_bagsLift, 7, (some .int), 3), (11, yX11_law, cX11_law, 5, (some .long), 4), (11, yX11_load, cX11_load, 3, (some .boolean), 2),
  (11, yX11_canBeLoaded, cX11_canBeLoaded, 1, (some .boolean), 0), (11, yX11_remember, cX11_remember, 2, none, 0), (11, yX11_tie, cX11_tie, 4, (some .boolean), 2),
  (11, yX11_stones, cX11_stones, 2, (some .boolean), 1), (11, yX11_at, cX11_at, 2, (some .boolean), 1), (11, yX11_go, cX11_go, 3, (some .int), 1)]
def pMs_10 : List pMe := [(11, yX11_hasWays, cX11_hasWays, 1, (some .boolean), 0), (2, yX2_hourGoesBy, cX2_hourGoesBy, 6, none, 2), (2, yX2_meetThief, cX2_meetThief, 3, none, 1),
  (11, yX11_trade, cX11_trade, 3, (some .int), 1), (11, yX11_led, cX11_led, 4, (some .int), 2), (3, yX3_wayFrom, cX3_wayFrom, 7, (some .int), 3),
  (11, yX11_when, cX11_when, 1, (some .int), 0)]
def pMs_11 : List pMe := [(11, yX11_hoursUp, cX11_hoursUp, 4, (some .int), 0), (11, yX11_span, cX11_span, 7, (some .int), 1), (11, yX11_rowFrom, cX11_rowFrom, 3, (some .int), 2),
  (11, yX11_most, cX11_most, 3, (some .int), 2), (6, yX6_leaveThoseUp, cX6_leaveThoseUp, 9, none, 3), (6, yX6_leaveAll, cX6_leaveAll, 4, none, 1),
  (8, yX8_hasBags, cX8_hasBags, 4, (some .boolean), 1), (6, yX6_isLeft, cX6_isLeft, 2, (some .boolean), 1), (6, yX6_narrow, cX6_narrow, 4, none, 3),
  (6, yX6_findBest, cX6_findBest, 7, (some .boolean), 0), (8, yX8_gainOf, cX8_gainOf, 4, (some .int), 1), (4, yX4_gain, cX4_gain, 1, (some .int), 0)]
def pMs_12 : List pMe := [(6, yX6_howManyStones, cX6_howManyStones, 3, (some .int), 2), (6, yX6_mostStones, cX6_mostStones, 3, (some .int), 2), (13, yJ9_floorDiv_7cf53, cJ9_floorDiv_7cf53, 3, (some .int), 2),
  (6, yX6_fewestStones, cX6_fewestStones, 3, (some .int), 2), (11, yX11_ballast, cX11_ballast, 2, (some .int), 1), (0, yX0_plan, cX0_plan, 11, (some .int), 4),
  (0, yX0_mostBehind, cX0_mostBehind, 3, (some .int), 3), (0, yX0_choose, cX0_choose, 10, (some .int), 5), (0, yX0_costOf, cX0_costOf, 4, (some .int), 3),
  (0, yX0_follow, cX0_follow, 7, (some .int), 3), (11, yX11_behind, cX11_behind, 3, (some .int), 2), (11, yX11_ropes, cX11_ropes, 7, (some .int), 1)]
def pMs_13 : List pMe := [(11, yX11_meet, cX11_meet, 5, (some .int), 3), (11, yX11_meetingBend, cX11_meetingBend, 5, (some .int), 2), (11, yX11_waits, cX11_waits, 5, (some .int), 2),
  (11, yX11_worth, cX11_worth, 6, (some .int), 2), (11, yX11_toll, cX11_toll, 3, (some .int), 1), (6, yX6_priceForNone, cX6_priceForNone, 4, (some .int), 0),
  (6, yX6_canBeCarried, cX6_canBeCarried, 3, (some .boolean), 1), (11, yX11_lands, cX11_lands, 4, (some .int), 1), (8, yX8_windAt, cX8_windAt, 5, (some .int), 1),
  (11, yX11_see, cX11_see, 5, (some .int), 4), (9, yX9_add, cX9_add, 5, (some .int), 4), (11, yX11_strike, cX11_strike, 2, (some .int), 1)]
def pMs_14 : List pMe := [(9, yX9_addStrike, cX9_addStrike, 2, (some .int), 1), (11, yX11_known, cX11_known, 2, (some .boolean), 1), (11, yX11_fits, cX11_fits, 1, (some .int), 0),
  (6, yX6_leaveThoseThatFit, cX6_leaveThoseThatFit, 7, none, 3), (9, yX9_findStruck, cX9_findStruck, 2, none, 0), (9, yX9_knownBy, cX9_knownBy, 1, (some .int), 0),
  (9, yX9_isStrike, cX9_isStrike, 2, (some .boolean), 1), (6, yX6_howMany, cX6_howMany, 5, (some .int), 1), (11, yX11_fit, cX11_fit, 3, (some .int), 2),
  (6, yX6_findNumbered, cX6_findNumbered, 6, (some .boolean), 1), (11, yX11_sure, cX11_sure, 4, (some .int), 1), (11, yX11_chance, cX11_chance, 7, (some .int), 1)]
def pMs_15 : List pMe := [(2, yX2_becomes, cX2_becomes, 2, none, 1), (11, yX11_tried, cX11_tried, 4, (some .int), 3), (11, yX11_isTrial, cX11_isTrial, 3, (some .boolean), 2),
  (11, yX11_undo, cX11_undo, 2, (some .int), 0), (11, yX11_keep, cX11_keep, 1, (some .int), 0), (11, yX11_back, cX11_back, 1, (some .int), 0),
  (11, yX11_count, cX11_count, 2, (some .int), 1), (2, yX2_stonesAtDepots, cX2_stonesAtDepots, 3, (some .int), 0)]
def pMs_16 : List pMe := [(11, yX11_look, cX11_look, 4, (some .int), 2), (12, yX12_init, cX12_init, 1, none, 0), (12, yX12_begins, cX12_begins, 2, none, 0)]
def pMs_17 : List pMe := [(12, yX12_feed, cX12_feed, 8, (some .int), 5), (12, yX12_text, cX12_text, 3, (some .int), 1), (12, yX12_reads, cX12_reads, 3, none, 2),
  (12, yX12_token, cX12_token, 2, none, 0), (12, yX12_here, cX12_here, 1, (some .int), 0), (12, yX12_isSmall, cX12_isSmall, 1, (some .boolean), 1),
  (12, yX12_word, cX12_word, 4, (some .int), 0), (12, yX12_name, cX12_name, 2, none, 0), (12, yX12_isDigit, cX12_isDigit, 1, (some .boolean), 1),
  (12, yX12_sign, cX12_sign, 2, none, 1), (12, yX12_line, cX12_line, 6, none, 0), (12, yX12_wrong, cX12_wrong, 2, none, 1)]
def pMs_18 : List pMe := [(12, yX12_isFull, cX12_isFull, 2, (some .boolean), 1), (12, yX12_fresher, cX12_fresher, 2, (some .int), 1), (12, yX12_bendLine, cX12_bendLine, 4, none, 1),
  (12, yX12_fresh, cX12_fresh, 5, (some .int), 3), (12, yX12_found, cX12_found, 5, (some .int), 4), (12, yX12_numeral, cX12_numeral, 4, (some .int), 2),
  (12, yX12_isWord, cX12_isWord, 2, (some .boolean), 1), (12, yX12_isSign, cX12_isSign, 2, (some .boolean), 1), (12, yX12_bendAtHand, cX12_bendAtHand, 3, (some .int), 1),
  (12, yX12_goOn, cX12_goOn, 1, none, 0), (12, yX12_warmLine, cX12_warmLine, 3, none, 0), (12, yX12_lawLine, cX12_lawLine, 2, none, 0)]
def pMs_19 : List pMe := [(12, yX12_expression, cX12_expression, 1, none, 0), (12, yX12_conjunction, cX12_conjunction, 1, none, 0), (12, yX12_negation, cX12_negation, 2, none, 0),
  (12, yX12_knot, cX12_knot, 1, none, 0), (12, yX12_puts, cX12_puts, 3, none, 2), (12, yX12_sum, cX12_sum, 2, none, 0),
  (12, yX12_product, cX12_product, 2, none, 0), (12, yX12_primary, cX12_primary, 2, none, 0), (12, yX12_half, cX12_half, 3, none, 1),
  (12, yX12_fault, cX12_fault, 2, (some .int), 1), (12, yX12_named, cX12_named, 3, (some .int), 2), (12, yX12_look, cX12_look, 3, (some .int), 2)]
def pMs_20 : List pMe := [(12, yX12_isBend, cX12_isBend, 2, (some .boolean), 1)]
def pMs_21 : List pMe := [(12, yX12_slopeTo, cX12_slopeTo, 2, (some .int), 1), (12, yX12_goods, cX12_goods, 3, (some .int), 2), (12, yX12_isGoods, cX12_isGoods, 2, (some .boolean), 1),
  (12, yX12_bag, cX12_bag, 3, (some .int), 2), (12, yX12_isSort, cX12_isSort, 2, (some .boolean), 1), (12, yX12_lift, cX12_lift, 4, (some .int), 3),
  (12, yX12_isHour, cX12_isHour, 1, (some .boolean), 1), (12, yX12_liftOf, cX12_liftOf, 4, (some .int), 3), (12, yX12_calls, cX12_calls, 4, none, 3),
  (12, yX12_within, cX12_within, 4, (some .int), 3), (12, yX12_hasLaw, cX12_hasLaw, 2, (some .boolean), 1), (12, yX12_goes, cX12_goes, 3, (some .boolean), 1)]
def pMs_22 : List pMe := [(12, yX12_works, cX12_works, 8, (some .boolean), 1), (12, yX12_is, cX12_is, 1, (some .long), 1), (13, yJ9_abs_067f4, cJ9_abs_067f4, 2, (some .long), 1),
  (12, yX12_pull, cX12_pull, 3, (some .int), 2), (12, yX12_pullOf, cX12_pullOf, 3, (some .int), 2), (12, yX12_strong, cX12_strong, 1, (some .int), 0),
  (12, yX12_net, cX12_net, 3, (some .int), 2), (12, yX12_layLaws, cX12_layLaws, 4, none, 0), (12, yX12_netOf, cX12_netOf, 8, (some .int), 5),
  (12, yX12_law, cX12_law, 5, (some .long), 4), (12, yX12_load, cX12_load, 3, (some .boolean), 2), (12, yX12_isBelow, cX12_isBelow, 1, (some .boolean), 0)]
def pMs_23 : List pMe := [(12, yX12_keepNow, cX12_keepNow, 2, none, 0), (12, yX12_copies, cX12_copies, 4, none, 2), (12, yX12_tie, cX12_tie, 3, (some .boolean), 2),
  (12, yX12_stones, cX12_stones, 2, (some .boolean), 1), (12, yX12_at, cX12_at, 2, (some .boolean), 1), (12, yX12_go, cX12_go, 3, (some .int), 1),
  (12, yX12_passes, cX12_passes, 4, none, 1), (12, yX12_netAt, cX12_netAt, 4, (some .int), 3), (12, yX12_draw, cX12_draw, 2, (some .int), 1),
  (12, yX12_cuts, cX12_cuts, 3, none, 1), (12, yX12_trade, cX12_trade, 3, (some .int), 1), (12, yX12_led, cX12_led, 4, (some .int), 2)]
def pMs_24 : List pMe := [(12, yX12_isFrom, cX12_isFrom, 2, (some .boolean), 1), (12, yX12_wayNow, cX12_wayNow, 2, (some .int), 1), (12, yX12_way, cX12_way, 9, (some .int), 5),
  (12, yX12_when, cX12_when, 1, (some .int), 0), (12, yX12_whenUp, cX12_whenUp, 3, (some .int), 0), (12, yX12_span, cX12_span, 7, (some .int), 1),
  (12, yX12_most, cX12_most, 3, (some .int), 2), (12, yX12_layMost, cX12_layMost, 7, none, 1), (12, yX12_gainOf, cX12_gainOf, 4, (some .int), 1),
  (12, yX12_poundsOf, cX12_poundsOf, 4, (some .int), 1), (12, yX12_areBags, cX12_areBags, 3, (some .boolean), 1), (12, yX12_toll, cX12_toll, 2, (some .int), 1)]
def pMs_25 : List pMe := [(12, yX12_ballast, cX12_ballast, 2, (some .int), 1), (12, yX12_layBallast, cX12_layBallast, 6, none, 1), (12, yX12_changesBy, cX12_changesBy, 5, (some .int), 4),
  (12, yX12_comesOn, cX12_comesOn, 5, (some .boolean), 3), (12, yX12_isHeld, cX12_isHeld, 4, (some .boolean), 3), (12, yX12_behind, cX12_behind, 6, (some .int), 2),
  (12, yX12_ropes, cX12_ropes, 4, (some .int), 1), (12, yX12_meet, cX12_meet, 5, (some .int), 3), (12, yX12_isMeet, cX12_isMeet, 3, (some .boolean), 2),
  (12, yX12_meetOf, cX12_meetOf, 7, (some .int), 2)]
def pMs_26 : List pMe := [(12, yX12_waits, cX12_waits, 5, (some .int), 2), (12, yX12_worth, cX12_worth, 4, (some .int), 2), (12, yX12_lands, cX12_lands, 6, (some .int), 1),
  (12, yX12_see, cX12_see, 5, (some .int), 4), (12, yX12_strike, cX12_strike, 2, (some .int), 1), (12, yX12_known, cX12_known, 2, (some .boolean), 1),
  (12, yX12_fits, cX12_fits, 1, (some .int), 0), (12, yX12_layFits, cX12_layFits, 5, none, 1), (12, yX12_knownMany, cX12_knownMany, 1, (some .int), 0),
  (12, yX12_fitsBy, cX12_fitsBy, 6, (some .boolean), 3), (12, yX12_oneFits, cX12_oneFits, 4, none, 3), (12, yX12_fit, cX12_fit, 3, (some .int), 2)]
def pMs_27 : List pMe := [(12, yX12_sure, cX12_sure, 2, (some .int), 1), (12, yX12_chance, cX12_chance, 6, (some .int), 1), (12, yX12_tried, cX12_tried, 7, (some .int), 3),
  (12, yX12_undo, cX12_undo, 1, (some .int), 0), (12, yX12_keep, cX12_keep, 1, (some .int), 0), (12, yX12_back, cX12_back, 1, (some .int), 0),
  (12, yX12_count, cX12_count, 4, (some .int), 1)]
def pMs : List pMe := pMs_0 ++ (pMs_1 ++ (pMs_2 ++ (pMs_3 ++ (pMs_4 ++ (pMs_5 ++ (pMs_6 ++ (pMs_7 ++ (pMs_8 ++ (pMs_9 ++ (pMs_10 ++ (pMs_11 ++ (pMs_12 ++ (pMs_13 ++ (pMs_14 ++ (pMs_15 ++ (pMs_16 ++ (pMs_17 ++ (pMs_18 ++ (pMs_19 ++ (pMs_20 ++ (pMs_21 ++ (pMs_22 ++ (pMs_23 ++ (pMs_24 ++ (pMs_25 ++ (pMs_26 ++ (pMs_27)))))))))))))))))))))))))))
def pMt (K : Nat) : pMe := pMs.getD K (0, yX0_init, cX0_init, 1, none, 0)
def pMy (K : Nat) : MethodName := (pMt K).2.1
def pHost : String := "UphillCarts"
def pWm (M : pMe) : Cond := .code M.2.1 M.2.2.1 M.2.2.2.1 M.2.2.2.2.1
def pWf (q : Nat × Nat × Nat) : Cond := .fieldLink (pR q.1) q.2.1 (pT (q.2.2 / 100) (q.2.2 % 100)).1 (pT (q.2.2 / 100) (q.2.2 % 100)).2.1 (pT (q.2.2 / 100) (q.2.2 % 100)).2.2.1
def pWy (n : Nat) : MethodName := if n / 1000 = 4 then objectInit else if n / 1000 = 5 then arraycopyName else pMy (n % 1000)
def pWc (q : Nat × Nat × Nat) : Cond := .methodLink (pR q.1) q.2.1 (pWy q.2.2)
def pWj (K : Nat) : Cond := .instanceMethod (pMy K)
def pWs (K : Nat) : Cond := .selects (pMy K).cls (pMy K) (pMy K)
def pWt (K : Nat) : Cond := .static (pMy K)
def pWk (q : Nat × Nat × Int32) : Cond := .constant (pR q.1) q.2.1 q.2.2
def pWl (q : Nat × Nat × Int64) : Cond := .constantLong (pR q.1) q.2.1 q.2.2
def pWn (q : Nat × Nat × Nat) : Cond := .classLink (pR q.1) q.2.1 (pR q.2.2)
def pWa (q : Nat × Nat × Nat) : Cond := .classLink (pR q.1) q.2.1 (if q.2.2 = 24 then RX1 else RX4)
def pWi (c : Nat) : Cond := .instantiable (pR c) (pN c)
def pWz (c : Nat) : Cond := .initialized (pR c)
def pWu (q : Nat × Nat) : Cond := u_lay (pR q.1) (pT q.1) q.2
def pWx (t : FieldType) : Cond := .arrayClass t
/-- fields: class, pool entry, 100 * class + field; calls: class, pool entry, 1000 * kind + method -/
def pFs_0 : List (Nat × Nat × Nat) := [(5, 9, 500), (5, 15, 501), (8, 61, 501), (8, 85, 100), (7, 140, 100), (3, 46, 101), (8, 89, 101), (11, 152, 101), (7, 161, 101), (11, 157, 102), (7, 145, 102), (3, 56, 103),
  (11, 160, 103), (7, 149, 103), (8, 105, 103), (2, 50, 104), (7, 152, 104), (2, 85, 105), (11, 166, 105), (7, 155, 105), (8, 88, 400), (7, 171, 400), (8, 98, 401), (11, 184, 401),
  (7, 174, 401), (4, 13, 402), (11, 189, 402), (7, 177, 402), (4, 7, 403), (11, 192, 403), (7, 180, 403), (8, 11, 800), (2, 46, 800), (3, 40, 800), (11, 148, 800), (7, 129, 800),
  (8, 19, 801), (11, 180, 801), (7, 164, 801), (8, 23, 802)]
def pFs_1 : List (Nat × Nat × Nat) := [(7, 186, 802), (8, 27, 803), (3, 74, 803), (11, 201, 803), (7, 189, 803), (8, 30, 804), (11, 204, 804), (7, 192, 804), (8, 33, 805), (3, 53, 805), (7, 198, 805), (8, 39, 806),
  (3, 77, 806), (11, 233, 806), (7, 217, 806), (8, 43, 807), (3, 99, 807), (11, 247, 807), (7, 221, 807), (0, 24, 808), (8, 51, 808), (2, 43, 808), (7, 71, 808), (6, 63, 808),
  (3, 117, 808), (11, 313, 808), (8, 55, 809), (6, 25, 809), (7, 84, 809), (11, 378, 809), (8, 58, 810), (6, 34, 810), (7, 90, 810), (3, 104, 810), (11, 379, 810), (8, 64, 811),
  (3, 96, 811), (11, 250, 811), (7, 201, 811), (8, 67, 812)]
def pFs_2 : List (Nat × Nat × Nat) := [(0, 47, 812), (6, 78, 812), (2, 78, 812), (3, 114, 812), (7, 204, 812), (11, 316, 812), (8, 70, 813), (7, 207, 813), (11, 319, 813), (8, 73, 814), (0, 64, 814), (2, 65, 814),
  (6, 113, 814), (7, 210, 814), (2, 34, 815), (8, 76, 815), (7, 214, 815), (8, 79, 816), (7, 249, 816), (11, 382, 816), (8, 82, 817), (7, 67, 817), (11, 124, 817)]
def pFs_3 : List (Nat × Nat × Nat) := [(10, 15, 1000), (10, 9, 1001), (10, 40, 1002), (10, 43, 1003), (7, 53, 1004), (10, 52, 1004), (7, 123, 1005), (10, 75, 1005), (7, 70, 1006), (10, 49, 1006), (7, 20, 700), (7, 9, 701),
  (7, 229, 702), (7, 232, 703), (7, 24, 704), (7, 33, 705), (7, 37, 706), (7, 40, 707), (7, 126, 708), (7, 43, 709), (11, 119, 709), (7, 46, 710), (11, 123, 710), (3, 9, 300),
  (3, 15, 301), (3, 18, 302), (3, 22, 303), (3, 25, 304), (3, 29, 305), (3, 33, 306), (3, 36, 307), (6, 9, 600), (6, 15, 601), (6, 18, 602), (6, 21, 603), (6, 31, 604),
  (6, 37, 605), (6, 131, 606), (11, 300, 606), (6, 132, 607)]
def pFs_4 : List (Nat × Nat × Nat) := [(11, 304, 607), (6, 128, 608), (11, 305, 608), (0, 11, 0), (0, 15, 1), (0, 18, 2), (0, 21, 3), (11, 310, 3), (9, 9, 900), (6, 101, 900), (9, 15, 901), (6, 104, 901),
  (9, 18, 902), (6, 107, 902), (9, 21, 903), (6, 110, 903), (9, 24, 904), (6, 97, 904), (9, 28, 905), (9, 31, 906), (11, 341, 906), (9, 35, 907), (11, 344, 907)]
def pFs_5 : List (Nat × Nat × Nat) := [(2, 9, 200), (0, 79, 200), (11, 163, 200), (2, 15, 201), (0, 53, 201), (11, 195, 201), (2, 19, 202), (0, 30, 202), (11, 207, 202), (2, 22, 203), (0, 85, 203), (11, 259, 203),
  (2, 25, 204), (11, 275, 204), (2, 28, 205), (11, 262, 205), (2, 31, 206), (11, 272, 206), (2, 39, 207), (11, 361, 207), (11, 11, 1100), (11, 108, 1101), (11, 122, 1102), (11, 15, 1103),
  (11, 34, 1104), (11, 22, 1105), (11, 26, 1106), (11, 43, 1107), (11, 47, 1108), (11, 53, 1109), (11, 60, 1110), (11, 67, 1111), (11, 74, 1112), (11, 78, 1113), (11, 81, 1114), (11, 101, 1115),
  (11, 375, 1116), (11, 84, 1117), (11, 105, 1118)]
def pFs_6 : List (Nat × Nat × Nat) := [(12, 144, 1200), (12, 9, 1201), (12, 147, 1202), (12, 15, 1203), (12, 18, 1204), (12, 21, 1205), (12, 24, 1206), (12, 28, 1207), (12, 31, 1208), (12, 34, 1209), (12, 37, 1210), (12, 40, 1211),
  (12, 43, 1212), (12, 46, 1213), (12, 49, 1214), (12, 52, 1215), (12, 55, 1216), (12, 58, 1217), (12, 61, 1218), (12, 64, 1219), (12, 67, 1220), (12, 70, 1221), (12, 221, 1222), (12, 239, 1223),
  (12, 245, 1224), (12, 257, 1225), (12, 153, 1226), (12, 150, 1227), (12, 160, 1228), (12, 163, 1229), (12, 173, 1230), (12, 198, 1231), (12, 201, 1232), (12, 299, 1233), (12, 73, 1234), (12, 293, 1235),
  (12, 269, 1236), (12, 77, 1237), (12, 80, 1238), (12, 83, 1239)]
def pFs_7 : List (Nat × Nat × Nat) := [(12, 86, 1240), (12, 89, 1241), (12, 92, 1242), (12, 95, 1243), (12, 98, 1244), (12, 309, 1245), (12, 313, 1246), (12, 101, 1247), (12, 105, 1248), (12, 333, 1249), (12, 108, 1250), (12, 111, 1251),
  (12, 114, 1252), (12, 423, 1253), (12, 450, 1254), (12, 438, 1255), (12, 456, 1256), (12, 459, 1257), (12, 441, 1258), (12, 117, 1259), (12, 481, 1260), (12, 306, 1261), (12, 120, 1262), (12, 123, 1263),
  (12, 126, 1264), (12, 129, 1265), (12, 132, 1266), (12, 135, 1267), (12, 138, 1268), (12, 494, 1269), (12, 497, 1270), (12, 512, 1271), (12, 515, 1272), (12, 518, 1273), (12, 500, 1274), (12, 503, 1275)]
def pFs : List (Nat × Nat × Nat) := pFs_0 ++ (pFs_1 ++ (pFs_2 ++ (pFs_3 ++ (pFs_4 ++ (pFs_5 ++ (pFs_6 ++ (pFs_7)))))))
def pCs_0 : List (Nat × Nat × Nat) := [(11, 5, 4000), (11, 21, 2001), (8, 3, 4000), (5, 3, 4000), (1, 1, 4000), (4, 1, 4000), (8, 48, 5), (11, 31, 2006), (7, 3, 4000)]
def pCs_1 : List (Nat × Nat × Nat) := [(7, 17, 2007), (10, 3, 4000), (10, 21, 8), (14, 335, 9), (10, 27, 10), (14, 492, 11), (14, 495, 1012), (15, 9, 1013), (14, 1059, 1014), (10, 31, 1015), (11, 40, 2016), (3, 3, 4000),
  (11, 52, 2017), (6, 3, 4000), (0, 3, 4000), (9, 3, 4000)]
def pCs_2 : List (Nat × Nat × Nat) := [(2, 3, 4000), (11, 88, 21), (11, 91, 22), (11, 95, 23), (11, 98, 24), (11, 111, 26), (11, 115, 28), (7, 28, 5), (7, 49, 29), (10, 35, 1030), (10, 46, 31), (10, 55, 1032),
  (10, 59, 33), (10, 78, 34), (10, 62, 1035), (10, 65, 36), (10, 68, 1037), (10, 72, 38), (7, 56, 39), (7, 74, 40), (7, 60, 41), (7, 78, 42), (7, 64, 31), (7, 133, 43),
  (7, 137, 44), (7, 158, 45), (7, 81, 46), (7, 87, 47), (7, 168, 48), (7, 93, 49), (7, 183, 50), (7, 96, 51), (7, 195, 52), (7, 99, 53), (7, 102, 54)]
def pCs_3 : List (Nat × Nat × Nat) := [(7, 105, 55), (7, 108, 56), (7, 111, 57), (7, 114, 58), (7, 117, 59), (7, 120, 60), (7, 224, 61), (7, 235, 62), (7, 252, 63), (7, 255, 64), (7, 258, 65), (7, 261, 66),
  (7, 243, 1067), (7, 239, 68), (7, 246, 69), (11, 127, 43), (11, 131, 48), (11, 134, 50), (11, 177, 73), (11, 198, 75), (11, 137, 77), (11, 210, 1078), (11, 213, 79), (3, 81, 80),
  (3, 59, 1081), (3, 65, 82), (8, 92, 1083), (3, 68, 84), (5, 19, 1085), (3, 89, 1086), (3, 93, 1087), (11, 217, 89), (11, 224, 91), (2, 61, 92), (11, 228, 93), (3, 107, 79),
  (11, 237, 61), (11, 243, 80), (11, 253, 96), (11, 256, 97)]
def pCs_4 : List (Nat × Nat × Nat) := [(11, 369, 5000), (11, 265, 102), (11, 268, 103), (2, 68, 91), (2, 72, 93), (2, 81, 89), (2, 88, 104), (11, 278, 1030), (11, 283, 107), (3, 111, 93), (3, 120, 89)]
def pCs_5 : List (Nat × Nat × Nat) := [(11, 286, 109), (11, 290, 1111), (11, 293, 113), (6, 59, 114), (6, 40, 92), (6, 44, 115), (6, 66, 89), (6, 71, 116), (6, 74, 93), (6, 81, 117), (6, 50, 1083), (6, 56, 1030),
  (11, 297, 118), (6, 119, 119), (8, 101, 120), (6, 122, 121), (6, 138, 122), (6, 116, 1123), (6, 125, 124), (11, 301, 119), (11, 306, 126), (0, 35, 93), (0, 41, 1083), (0, 50, 89),
  (0, 56, 92), (0, 60, 1127), (0, 82, 1030), (0, 67, 128), (0, 72, 129), (0, 75, 130), (11, 322, 134), (11, 325, 120), (11, 328, 138), (6, 135, 139), (11, 331, 141), (11, 334, 143),
  (11, 338, 145), (11, 347, 148), (6, 85, 149), (9, 44, 150)]
def pCs_6 : List (Nat × Nat × Nat) := [(9, 38, 1030), (6, 90, 150), (6, 94, 151), (11, 351, 152), (11, 354, 154), (11, 357, 157), (2, 55, 5000), (11, 365, 159), (11, 385, 150), (11, 388, 164)]
def pCs_7 : List (Nat × Nat × Nat) := [(11, 169, 82), (12, 3, 4000), (12, 141, 167)]
def pCs_8 : List (Nat × Nat × Nat) := [(12, 235, 170), (12, 204, 171), (12, 156, 172), (12, 166, 1173), (12, 170, 174), (12, 189, 8), (12, 194, 10), (12, 176, 175), (12, 179, 1176), (12, 183, 177), (12, 296, 178), (12, 207, 179),
  (12, 218, 180), (12, 214, 181), (12, 224, 182), (12, 227, 183), (12, 210, 1184), (12, 231, 185), (12, 260, 186), (12, 254, 187), (12, 242, 188), (12, 263, 189), (12, 248, 190), (12, 251, 191),
  (12, 266, 192), (12, 272, 193), (12, 281, 194), (12, 275, 195), (12, 278, 196), (12, 284, 197), (12, 287, 198), (12, 290, 199), (12, 302, 1200), (12, 321, 204), (12, 324, 205)]
def pCs_9 : List (Nat × Nat × Nat) := [(12, 316, 1083), (12, 327, 207), (12, 330, 209), (12, 384, 1211), (12, 378, 212), (12, 367, 213), (12, 365, 1081), (12, 371, 214), (12, 351, 215), (12, 354, 216), (12, 348, 217), (12, 336, 1218),
  (12, 340, 1219), (12, 357, 1086), (12, 361, 1087), (12, 381, 221), (12, 375, 222), (12, 388, 224), (12, 391, 225), (12, 402, 228), (12, 406, 229), (12, 399, 230), (12, 420, 235), (12, 411, 236),
  (12, 414, 237), (12, 417, 238), (12, 429, 241), (12, 432, 242), (12, 426, 243), (12, 435, 245), (12, 462, 248), (12, 444, 249), (12, 447, 250), (12, 453, 251), (12, 478, 254), (12, 472, 255),
  (12, 469, 256), (12, 465, 257), (12, 476, 1030), (12, 484, 261)]
def pCs_10 : List (Nat × Nat × Nat) := [(12, 488, 262)]
def pCs_11 : List (Nat × Nat × Nat) := [(12, 521, 270), (12, 491, 271), (12, 506, 272), (12, 509, 273)]
def pCs : List (Nat × Nat × Nat) := pCs_0 ++ (pCs_1 ++ (pCs_2 ++ (pCs_3 ++ (pCs_4 ++ (pCs_5 ++ (pCs_6 ++ (pCs_7 ++ (pCs_8 ++ (pCs_9 ++ (pCs_10 ++ (pCs_11)))))))))))
def pC3 : List (Nat × Nat × Nat) := [(8, 38, 3002), (8, 46, 3003), (8, 47, 3004), (11, 59, 3018), (11, 66, 3019), (11, 73, 3020)]
def pJs_0 : List Nat := [1, 2, 3, 4, 5, 6]
def pJs_1 : List Nat := [7, 8, 9, 10, 11, 16, 17, 18, 19]
def pJs_2 : List Nat := [20, 21, 22, 23, 24, 26, 28, 29, 31, 33, 34, 36, 38, 39, 40, 41, 42, 43, 44, 45, 46, 47, 48, 49, 50, 51, 52, 53, 54]
def pJs_3 : List Nat := [55, 56, 57, 58, 59, 60, 61, 62, 63, 64, 65, 66, 68, 69, 73, 75, 77, 79, 80, 82, 84, 89, 91, 92, 93, 96, 97, 102, 103, 104,
  107]
def pJs_4 : List Nat := [109, 113, 114, 115, 116, 117, 118, 119, 120, 121, 122, 124, 126, 128, 129, 130, 134, 138, 139, 141, 143, 145, 148, 149, 150, 151, 152, 154, 157, 159,
  164]
def pJs_5 : List Nat := [167]
def pJs_6 : List Nat := [170, 171, 172, 174, 175, 177, 178, 179, 180, 181, 182, 183, 185, 186, 187, 188, 189, 190, 191, 192, 193, 194, 195, 196, 197, 198, 199, 204]
def pJs_7 : List Nat := [205, 207, 209, 212, 213, 214, 215, 216, 217, 221, 222, 224, 225, 228, 229, 230, 235, 236, 237, 238, 241, 242, 243, 245, 248, 249, 250, 251, 254, 255,
  256, 257, 261, 262]
def pJs_8 : List Nat := [270, 271, 272, 273]
def pJs : List Nat := pJs_0 ++ (pJs_1 ++ (pJs_2 ++ (pJs_3 ++ (pJs_4 ++ (pJs_5 ++ (pJs_6 ++ (pJs_7 ++ (pJs_8))))))))
def pSs_0 : List Nat := [21, 26, 33, 34, 36, 38, 39, 40, 41, 42, 44, 45, 46, 47, 49, 51, 52, 53, 54, 55, 56, 57, 58, 59, 60, 62, 64, 65, 66, 68,
  69, 73, 75, 77, 96, 97, 102, 104, 109, 114]
def pSs_1 : List Nat := [116, 117, 121, 122, 124, 128, 129, 130, 134, 139, 159, 167, 170, 171, 172, 174, 175, 177, 178, 179, 180, 181, 182, 183, 185, 186, 187, 188, 189, 190,
  191, 192, 193, 194, 195, 196, 197, 198, 199, 204]
def pSs_2 : List Nat := [205, 207, 209, 212, 213, 214, 215, 216, 217, 221, 222, 224, 225, 228, 229, 230, 235, 236, 237, 238, 241, 242, 243, 245, 248, 249, 250, 251, 254, 255,
  256, 257, 261, 262, 270, 271, 272, 273]
def pSs_3 : List Nat := [5]
def pSs_4 : List Nat := [8, 9, 10, 11]
def pSs_5 : List Nat := [22, 23, 24, 28, 29, 31, 43, 48, 50]
def pSs_6 : List Nat := [61, 63, 79, 80, 82, 84, 89, 91, 92, 93, 103, 107]
def pSs_7 : List Nat := [113, 115, 118, 119, 120, 126, 138, 141, 143, 145, 148, 149, 150, 151, 152, 154, 157, 164]
def pSs : List Nat := pSs_0 ++ (pSs_1 ++ (pSs_2 ++ (pSs_3 ++ (pSs_4 ++ (pSs_5 ++ (pSs_6 ++ (pSs_7)))))))
def pTt_0 : List Nat := [12, 13, 14, 15]
def pTt_1 : List Nat := [30, 32, 35, 37]
def pTt_2 : List Nat := [67, 78, 81, 83, 85, 86, 87]
def pTt_3 : List Nat := [111, 123, 127]
def pTt_4 : List Nat := [173, 176, 184, 200]
def pTt_5 : List Nat := [211, 218, 219]
def pTt : List Nat := pTt_0 ++ (pTt_1 ++ (pTt_2 ++ (pTt_3 ++ (pTt_4 ++ (pTt_5)))))
def pKs_0 : List (Nat × Nat × Int32) := [(10, 82, 1000000)]
def pKs_1 : List (Nat × Nat × Int32) := [(7, 213, 99999), (11, 223, (-2147483648))]
def pKs_2 : List (Nat × Nat × Int32) := [(6, 48, (-1000000)), (6, 49, 1000000), (0, 71, 1000000)]
def pKs_3 : List (Nat × Nat × Int32) := [(12, 182, 99999)]
def pKs_4 : List (Nat × Nat × Int32) := [(12, 387, (-2147483648)), (12, 409, 1103515245), (12, 410, 2147483647)]
def pKs : List (Nat × Nat × Int32) := pKs_0 ++ (pKs_1 ++ (pKs_2 ++ (pKs_3 ++ (pKs_4))))
def pK2_0 : List (Nat × Nat × Int64) := [(3, 51, 9), (5, 23, 1000000000000), (5, 27, (-9223372036854775808)), (5, 25, (-1000000000000)), (3, 85, (-9223372036854775808)), (3, 87, 99), (3, 102, 999), (11, 231, (-9223372036854775808)),
  (2, 92, 1103515245), (2, 94, 12345), (2, 96, 2147483647), (2, 98, 65536), (2, 100, 100)]
def pK2_1 : List (Nat × Nat × Int64) := [(12, 363, 9), (12, 344, 1000000000000), (12, 346, (-1000000000000)), (12, 397, (-9223372036854775808))]
def pK2 : List (Nat × Nat × Int64) := pK2_0 ++ (pK2_1)
def pNs_0 : List (Nat × Nat × Nat) := [(11, 19, 8), (8, 9, 1), (8, 17, 4), (8, 36, 5), (11, 29, 7), (7, 15, 10)]
def pNs_1 : List (Nat × Nat × Nat) := [(11, 38, 3), (11, 50, 6), (11, 57, 0), (11, 64, 9)]
def pNs_2 : List (Nat × Nat × Nat) := [(11, 71, 2)]
def pNs : List (Nat × Nat × Nat) := pNs_0 ++ (pNs_1 ++ (pNs_2))
def pAn_0 : List (Nat × Nat × Nat) := [(8, 9, 24), (8, 17, 25)]
def pAn : List (Nat × Nat × Nat) := pAn_0
def pIz_0 : List Nat := [11, 8, 5, 1, 4, 7, 10]
def pIz_1 : List Nat := [3, 6, 0, 9]
def pIz_2 : List Nat := [2]
def pIz_3 : List Nat := [12]
def pIz : List Nat := pIz_0 ++ (pIz_1 ++ (pIz_2 ++ (pIz_3)))
def pZz_0 : List Nat := [11, 8, 5, 1, 4, 7, 10, 14, 15, 16, 3, 6, 0, 9, 2, 12, 13]
def pZz : List Nat := pZz_0
def pUu_0 : List (Nat × Nat) := [(5, 0), (5, 1), (1, 0), (1, 1), (1, 2), (1, 3), (1, 4), (1, 5), (4, 0), (4, 1), (4, 2), (4, 3), (8, 0), (8, 1), (8, 2), (8, 3),
  (8, 4), (8, 5), (8, 6), (8, 7), (8, 8), (8, 9), (8, 10), (8, 11), (8, 12), (8, 13), (8, 14), (8, 15), (8, 16), (8, 17)]
def pUu_1 : List (Nat × Nat) := [(10, 0), (10, 1), (10, 2), (10, 3), (10, 4), (10, 5), (10, 6), (7, 0), (7, 1), (7, 2), (7, 3), (7, 4), (7, 5), (7, 6), (7, 7), (7, 8),
  (7, 9), (7, 10), (3, 0), (3, 1), (3, 2), (3, 3), (3, 4), (3, 5), (3, 6), (3, 7), (6, 0), (6, 1), (6, 2), (6, 3), (6, 4), (6, 5),
  (6, 6), (6, 7), (6, 8), (0, 0), (0, 1), (0, 2), (0, 3), (9, 0)]
def pUu_2 : List (Nat × Nat) := [(9, 1), (9, 2), (9, 3), (9, 4), (9, 5), (9, 6)]
def pUu_3 : List (Nat × Nat) := [(9, 7), (2, 0), (2, 1), (2, 2), (2, 3), (2, 4), (2, 5), (2, 6), (2, 7), (11, 0), (11, 1), (11, 2), (11, 3), (11, 4), (11, 5), (11, 6),
  (11, 7), (11, 8), (11, 9), (11, 10), (11, 11), (11, 12), (11, 13), (11, 14), (11, 15), (11, 16), (11, 17), (11, 18)]
def pUu_4 : List (Nat × Nat) := [(12, 0), (12, 1), (12, 2), (12, 3), (12, 4), (12, 5), (12, 6), (12, 7), (12, 8), (12, 9), (12, 10), (12, 11), (12, 12), (12, 13), (12, 14), (12, 15),
  (12, 16), (12, 17), (12, 18), (12, 19), (12, 20), (12, 21), (12, 22), (12, 23), (12, 24), (12, 25), (12, 26), (12, 27), (12, 28), (12, 29), (12, 30)]
def pUu_5 : List (Nat × Nat) := [(12, 31), (12, 32), (12, 33), (12, 34), (12, 35), (12, 36), (12, 37), (12, 38), (12, 39), (12, 40), (12, 41), (12, 42), (12, 43), (12, 44), (12, 45), (12, 46),
  (12, 47), (12, 48), (12, 49), (12, 50), (12, 51), (12, 52), (12, 53), (12, 54), (12, 55), (12, 56), (12, 57), (12, 58), (12, 59), (12, 60), (12, 61), (12, 62),
  (12, 63), (12, 64), (12, 65), (12, 66), (12, 67), (12, 68), (12, 69), (12, 70)]
def pUu_6 : List (Nat × Nat) := [(12, 71), (12, 72), (12, 73), (12, 74), (12, 75)]
def pUu : List (Nat × Nat) := pUu_0 ++ (pUu_1 ++ (pUu_2 ++ (pUu_3 ++ (pUu_4 ++ (pUu_5 ++ (pUu_6))))))
def pWq (q : Nat × Nat × Nat) : Cond := if q.2.2 = 9000 then .fieldLink (pR q.1) q.2.1 RJ0 "value" "[B" else if q.2.2 = 9001 then .fieldLink (pR q.1) q.2.1 RJ0 "coder" "B" else if q.2.2 = 9100 then .fieldLink (pR q.1) q.2.1 RJ0 "COMPACT_STRINGS" "Z" else .fieldLink (pR q.1) q.2.1 RJ3 "SIOOBE_FORMATTER" "Ljava/util/function/BiFunction;"
def pQs_0 : List (Nat × Nat × Nat) := [(14, 38, 9100), (14, 1053, 9101)]
def pQs_1 : List (Nat × Nat × Nat) := [(14, 9, 9000), (14, 15, 9001)]
def pQs : List (Nat × Nat × Nat) := pQs_0 ++ (pQs_1)
def pXx_0 : List FieldType := [.byte, .int]
def pXx_1 : List FieldType := [.long]
def pXx_2 : List FieldType := [.boolean]
def pXx : List FieldType := pXx_0 ++ (pXx_1 ++ (pXx_2))
