theorem zfitZ {x : Int32} (hx : x &&& 1 = x) {V : zG} : fits .boolean (zv V (.int x)) = true := by
  have h : x = 0 ∨ x = 1 := by
    have h2 : x.toBitVec &&& 1#32 = x.toBitVec := by
      have := congrArg Int32.toBitVec hx
      simpa using this
    have h3 : x.toBitVec = 0#32 ∨ x.toBitVec = 1#32 := by
      have h4 : x.toBitVec.toNat % 2 = x.toBitVec.toNat := by
        have := congrArg BitVec.toNat h2
        simpa [BitVec.toNat_and, Nat.and_one_is_mod] using this
      have h5 : x.toBitVec.toNat < 2 := by omega
      rcases (show x.toBitVec.toNat = 0 ∨ x.toBitVec.toNat = 1 by omega) with h6 | h6
      · exact Or.inl (BitVec.eq_of_toNat_eq (by simpa using h6))
      · exact Or.inr (BitVec.eq_of_toNat_eq (by simpa using h6))
    rcases h3 with h3 | h3
    · exact Or.inl (Int32.toBitVec_inj.mp (by simpa using h3))
    · exact Or.inr (Int32.toBitVec_inj.mp (by simpa using h3))
  rcases h with rfl | rfl <;> rfl
abbrev M_X3_init : zY := (yX3_init, cX3_init, 2, (none : Option Jvm.ClassFile.FieldType))
theorem cal_X3_init : zCal M_X3_init 0 := ⟨wc_X3_init, wn_X3, by decide +kernel, by decide⟩
abbrev M_X0_init : zY := (yX0_init, cX0_init, 2, (none : Option Jvm.ClassFile.FieldType))
theorem cal_X0_init : zCal M_X0_init 0 := ⟨wc_X0_init, wn_X0, by decide +kernel, by decide⟩
abbrev M_X2_init : zY := (yX2_init, cX2_init, 1, (none : Option Jvm.ClassFile.FieldType))
theorem cal_X2_init : zCal M_X2_init 0 := ⟨wc_X2_init, wn_X2, by decide +kernel, by decide⟩
abbrev M_X1_init : zY := (yX1_init, cX1_init, 1, (none : Option Jvm.ClassFile.FieldType))
theorem cal_X1_init : zCal M_X1_init 0 := ⟨wc_X1_init, wn_X1, by decide +kernel, by decide⟩
abbrev M_X3_citizen : zY := (yX3_citizen, cX3_citizen, 2, (some .int))
theorem cal_X3_citizen : zCal M_X3_citizen 1 := ⟨wc_X3_citizen, wn_X3, by decide +kernel, by decide⟩
abbrev M_X3_isKind : zY := (yX3_isKind, cX3_isKind, 1, (some .boolean))
theorem cal_X3_isKind : zCal M_X3_isKind 1 := ⟨wc_X3_isKind, wn_X3, by decide +kernel, by decide⟩
abbrev M_X3_finding : zY := (yX3_finding, cX3_finding, 2, (some .int))
theorem cal_X3_finding : zCal M_X3_finding 1 := ⟨wc_X3_finding, wn_X3, by decide +kernel, by decide⟩
abbrev M_X0_settle : zY := (yX0_settle, cX0_settle, 3, (none : Option Jvm.ClassFile.FieldType))
theorem cal_X0_settle : zCal M_X0_settle 1 := ⟨wc_X0_settle, wn_X0, by decide +kernel, by decide⟩
abbrev M_X3_of : zY := (yX3_of, cX3_of, 3, (some .int))
theorem cal_X3_of : zCal M_X3_of 2 := ⟨wc_X3_of, wn_X3, by decide +kernel, by decide⟩
abbrev M_X0_houses : zY := (yX0_houses, cX0_houses, 2, (some .boolean))
theorem cal_X0_houses : zCal M_X0_houses 1 := ⟨wc_X0_houses, wn_X0, by decide +kernel, by decide⟩
abbrev M_X0_loafWorth : zY := (yX0_loafWorth, cX0_loafWorth, 3, (some .int))
theorem cal_X0_loafWorth : zCal M_X0_loafWorth 1 := ⟨wc_X0_loafWorth, wn_X0, by decide +kernel, by decide⟩
abbrev M_X0_seatWorth : zY := (yX0_seatWorth, cX0_seatWorth, 3, (some .int))
theorem cal_X0_seatWorth : zCal M_X0_seatWorth 1 := ⟨wc_X0_seatWorth, wn_X0, by decide +kernel, by decide⟩
abbrev M_X0_hasTrait : zY := (yX0_hasTrait, cX0_hasTrait, 1, (some .boolean))
theorem cal_X0_hasTrait : zCal M_X0_hasTrait 1 := ⟨wc_X0_hasTrait, wn_X0, by decide +kernel, by decide⟩
abbrev M_X0_trait : zY := (yX0_trait, cX0_trait, 3, (some .int))
theorem cal_X0_trait : zCal M_X0_trait 2 := ⟨wc_X0_trait, wn_X0, by decide +kernel, by decide⟩
abbrev M_X3_change : zY := (yX3_change, cX3_change, 5, (some .int))
theorem cal_X3_change : zCal M_X3_change 3 := ⟨wc_X3_change, wn_X3, by decide +kernel, by decide⟩
abbrev M_X0_allowsTrait : zY := (yX0_allowsTrait, cX0_allowsTrait, 2, (some .boolean))
theorem cal_X0_allowsTrait : zCal M_X0_allowsTrait 2 := ⟨wc_X0_allowsTrait, wn_X0, by decide +kernel, by decide⟩
abbrev M_X0_setTrait : zY := (yX0_setTrait, cX0_setTrait, 4, (none : Option Jvm.ClassFile.FieldType))
theorem cal_X0_setTrait : zCal M_X0_setTrait 3 := ⟨wc_X0_setTrait, wn_X0, by decide +kernel, by decide⟩
abbrev M_X3_rule : zY := (yX3_rule, cX3_rule, 4, (some .int))
theorem cal_X3_rule : zCal M_X3_rule 2 := ⟨wc_X3_rule, wn_X3, by decide +kernel, by decide⟩
abbrev M_X0_allowsRule : zY := (yX0_allowsRule, cX0_allowsRule, 2, (some .boolean))
theorem cal_X0_allowsRule : zCal M_X0_allowsRule 2 := ⟨wc_X0_allowsRule, wn_X0, by decide +kernel, by decide⟩
abbrev M_X0_ruling : zY := (yX0_ruling, cX0_ruling, 2, (some .int))
theorem cal_X0_ruling : zCal M_X0_ruling 1 := ⟨wc_X0_ruling, wn_X0, by decide +kernel, by decide⟩
abbrev M_X0_setRuling : zY := (yX0_setRuling, cX0_setRuling, 3, (none : Option Jvm.ClassFile.FieldType))
theorem cal_X0_setRuling : zCal M_X0_setRuling 2 := ⟨wc_X0_setRuling, wn_X0, by decide +kernel, by decide⟩
abbrev M_X3_now : zY := (yX3_now, cX3_now, 2, (some .int))
theorem cal_X3_now : zCal M_X3_now 1 := ⟨wc_X3_now, wn_X3, by decide +kernel, by decide⟩
abbrev M_X0_holders : zY := (yX0_holders, cX0_holders, 4, (some .int))
theorem cal_X0_holders : zCal M_X0_holders 1 := ⟨wc_X0_holders, wn_X0, by decide +kernel, by decide⟩
abbrev M_X0_starving : zY := (yX0_starving, cX0_starving, 3, (some .int))
theorem cal_X0_starving : zCal M_X0_starving 0 := ⟨wc_X0_starving, wn_X0, by decide +kernel, by decide⟩
abbrev M_X3_wants : zY := (yX3_wants, cX3_wants, 2, (some .int))
theorem cal_X3_wants : zCal M_X3_wants 1 := ⟨wc_X3_wants, wn_X3, by decide +kernel, by decide⟩
abbrev M_X0_wantsOther : zY := (yX0_wantsOther, cX0_wantsOther, 3, (some .boolean))
theorem cal_X0_wantsOther : zCal M_X0_wantsOther 1 := ⟨wc_X0_wantsOther, wn_X0, by decide +kernel, by decide⟩
abbrev M_X3_swap : zY := (yX3_swap, cX3_swap, 4, (some .int))
theorem cal_X3_swap : zCal M_X3_swap 2 := ⟨wc_X3_swap, wn_X3, by decide +kernel, by decide⟩
abbrev M_X0_exchange : zY := (yX0_exchange, cX0_exchange, 4, (none : Option Jvm.ClassFile.FieldType))
theorem cal_X0_exchange : zCal M_X0_exchange 2 := ⟨wc_X0_exchange, wn_X0, by decide +kernel, by decide⟩
abbrev M_X3_gates : zY := (yX3_gates, cX3_gates, 1, (some .int))
theorem cal_X3_gates : zCal M_X3_gates 0 := ⟨wc_X3_gates, wn_X3, by decide +kernel, by decide⟩
abbrev M_X0_openGates : zY := (yX0_openGates, cX0_openGates, 4, (some .int))
theorem cal_X0_openGates : zCal M_X0_openGates 0 := ⟨wc_X0_openGates, wn_X0, by decide +kernel, by decide⟩
abbrev M_X3_changes : zY := (yX3_changes, cX3_changes, 1, (some .int))
theorem cal_X3_changes : zCal M_X3_changes 0 := ⟨wc_X3_changes, wn_X3, by decide +kernel, by decide⟩
abbrev M_X0_become : zY := (yX0_become, cX0_become, 2, (none : Option Jvm.ClassFile.FieldType))
theorem cal_X0_become : zCal M_X0_become 1 := ⟨wc_X0_become, wn_X0, by decide +kernel, by decide⟩
abbrev M_X3_buy : zY := (yX3_buy, cX3_buy, 5, (some .int))
theorem cal_X3_buy : zCal M_X3_buy 3 := ⟨wc_X3_buy, wn_X3, by decide +kernel, by decide⟩
abbrev M_X0_wouldTrade : zY := (yX0_wouldTrade, cX0_wouldTrade, 4, (some .boolean))
theorem cal_X0_wouldTrade : zCal M_X0_wouldTrade 3 := ⟨wc_X0_wouldTrade, wn_X0, by decide +kernel, by decide⟩
abbrev M_X0_tokenWorth : zY := (yX0_tokenWorth, cX0_tokenWorth, 3, (some .int))
theorem cal_X0_tokenWorth : zCal M_X0_tokenWorth 2 := ⟨wc_X0_tokenWorth, wn_X0, by decide +kernel, by decide⟩
abbrev M_X0_trade : zY := (yX0_trade, cX0_trade, 4, (none : Option Jvm.ClassFile.FieldType))
theorem cal_X0_trade : zCal M_X0_trade 3 := ⟨wc_X0_trade, wn_X0, by decide +kernel, by decide⟩
abbrev M_X3_welfare : zY := (yX3_welfare, cX3_welfare, 1, (some .int))
theorem cal_X3_welfare : zCal M_X3_welfare 0 := ⟨wc_X3_welfare, wn_X3, by decide +kernel, by decide⟩
abbrev M_X0_allWorth : zY := (yX0_allWorth, cX0_allWorth, 3, (some .int))
theorem cal_X0_allWorth : zCal M_X0_allWorth 0 := ⟨wc_X0_allWorth, wn_X0, by decide +kernel, by decide⟩
abbrev M_X3_most : zY := (yX3_most, cX3_most, 1, (some .int))
theorem cal_X3_most : zCal M_X3_most 0 := ⟨wc_X3_most, wn_X3, by decide +kernel, by decide⟩
abbrev M_X0_bestWorth : zY := (yX0_bestWorth, cX0_bestWorth, 6, (some .int))
theorem cal_X0_bestWorth : zCal M_X0_bestWorth 0 := ⟨wc_X0_bestWorth, wn_X0, by decide +kernel, by decide⟩
abbrev M_J6_bitCount_0f7a4 : zY := (yJ6_bitCount_0f7a4, cJ6_bitCount_0f7a4, 1, (some .int))
theorem cal_J6_bitCount_0f7a4 : zCal M_J6_bitCount_0f7a4 1 := ⟨wc_J6_bitCount_0f7a4, wn_J6, by decide +kernel, by decide⟩
abbrev M_X0_keenestOnLoaf : zY := (yX0_keenestOnLoaf, cX0_keenestOnLoaf, 6, (some .int))
theorem cal_X0_keenestOnLoaf : zCal M_X0_keenestOnLoaf 1 := ⟨wc_X0_keenestOnLoaf, wn_X0, by decide +kernel, by decide⟩
abbrev M_X3_price : zY := (yX3_price, cX3_price, 3, (some .int))
theorem cal_X3_price : zCal M_X3_price 0 := ⟨wc_X3_price, wn_X3, by decide +kernel, by decide⟩
abbrev M_X0_preferLoafAt : zY := (yX0_preferLoafAt, cX0_preferLoafAt, 4, (some .int))
theorem cal_X0_preferLoafAt : zCal M_X0_preferLoafAt 1 := ⟨wc_X0_preferLoafAt, wn_X0, by decide +kernel, by decide⟩
abbrev M_X3_weeks : zY := (yX3_weeks, cX3_weeks, 4, (some .int))
theorem cal_X3_weeks : zCal M_X3_weeks 1 := ⟨wc_X3_weeks, wn_X3, by decide +kernel, by decide⟩
abbrev M_X3_hindrance : zY := (yX3_hindrance, cX3_hindrance, 2, (some .int))
theorem cal_X3_hindrance : zCal M_X3_hindrance 1 := ⟨wc_X3_hindrance, wn_X3, by decide +kernel, by decide⟩
abbrev M_X0_passWeeks : zY := (yX0_passWeeks, cX0_passWeeks, 4, (some .int))
theorem cal_X0_passWeeks : zCal M_X0_passWeeks 1 := ⟨wc_X0_passWeeks, wn_X0, by decide +kernel, by decide⟩
abbrev M_X0_passWeek : zY := (yX0_passWeek, cX0_passWeek, 3, (some .int))
theorem cal_X0_passWeek : zCal M_X0_passWeek 0 := ⟨wc_X0_passWeek, wn_X0, by decide +kernel, by decide⟩
abbrev M_X0_drawTokens : zY := (yX0_drawTokens, cX0_drawTokens, 5, (none : Option Jvm.ClassFile.FieldType))
theorem cal_X0_drawTokens : zCal M_X0_drawTokens 0 := ⟨wc_X0_drawTokens, wn_X0, by decide +kernel, by decide⟩
abbrev M_X0_draw : zY := (yX0_draw, cX0_draw, 1, (some .int))
theorem cal_X0_draw : zCal M_X0_draw 0 := ⟨wc_X0_draw, wn_X0, by decide +kernel, by decide⟩
abbrev M_X0_eatAndSee : zY := (yX0_eatAndSee, cX0_eatAndSee, 3, (none : Option Jvm.ClassFile.FieldType))
theorem cal_X0_eatAndSee : zCal M_X0_eatAndSee 0 := ⟨wc_X0_eatAndSee, wn_X0, by decide +kernel, by decide⟩
abbrev M_X0_maybeRiot : zY := (yX0_maybeRiot, cX0_maybeRiot, 2, (none : Option Jvm.ClassFile.FieldType))
theorem cal_X0_maybeRiot : zCal M_X0_maybeRiot 0 := ⟨wc_X0_maybeRiot, wn_X0, by decide +kernel, by decide⟩
abbrev M_X3_ahead : zY := (yX3_ahead, cX3_ahead, 5, (some .int))
theorem cal_X3_ahead : zCal M_X3_ahead 2 := ⟨wc_X3_ahead, wn_X3, by decide +kernel, by decide⟩
abbrev M_X0_allOf : zY := (yX0_allOf, cX0_allOf, 4, (some .int))
theorem cal_X0_allOf : zCal M_X0_allOf 1 := ⟨wc_X0_allOf, wn_X0, by decide +kernel, by decide⟩
abbrev M_X3_riot : zY := (yX3_riot, cX3_riot, 2, (some .int))
theorem cal_X3_riot : zCal M_X3_riot 0 := ⟨wc_X3_riot, wn_X3, by decide +kernel, by decide⟩
abbrev M_X0_calmWeeks : zY := (yX0_calmWeeks, cX0_calmWeeks, 4, (some .int))
theorem cal_X0_calmWeeks : zCal M_X0_calmWeeks 1 := ⟨wc_X0_calmWeeks, wn_X0, by decide +kernel, by decide⟩
abbrev M_X3_next : zY := (yX3_next, cX3_next, 2, (some .int))
theorem cal_X3_next : zCal M_X3_next 1 := ⟨wc_X3_next, wn_X3, by decide +kernel, by decide⟩
abbrev M_X3_loaves : zY := (yX3_loaves, cX3_loaves, 2, (some .int))
theorem cal_X3_loaves : zCal M_X3_loaves 1 := ⟨wc_X3_loaves, wn_X3, by decide +kernel, by decide⟩
abbrev M_X3_leastCalmRuling : zY := (yX3_leastCalmRuling, cX3_leastCalmRuling, 5, (some .int))
theorem cal_X3_leastCalmRuling : zCal M_X3_leastCalmRuling 2 := ⟨wc_X3_leastCalmRuling, wn_X3, by decide +kernel, by decide⟩
abbrev M_X3_cheapest : zY := (yX3_cheapest, cX3_cheapest, 8, (some .int))
theorem cal_X3_cheapest : zCal M_X3_cheapest 1 := ⟨wc_X3_cheapest, wn_X3, by decide +kernel, by decide⟩
abbrev M_X3_isCalmWith : zY := (yX3_isCalmWith, cX3_isCalmWith, 4, (some .boolean))
theorem cal_X3_isCalmWith : zCal M_X3_isCalmWith 3 := ⟨wc_X3_isCalmWith, wn_X3, by decide +kernel, by decide⟩
abbrev M_X3_leader : zY := (yX3_leader, cX3_leader, 7, (some .int))
theorem cal_X3_leader : zCal M_X3_leader 1 := ⟨wc_X3_leader, wn_X3, by decide +kernel, by decide⟩
abbrev M_X3_colourFor : zY := (yX3_colourFor, cX3_colourFor, 3, (some .int))
theorem cal_X3_colourFor : zCal M_X3_colourFor 2 := ⟨wc_X3_colourFor, wn_X3, by decide +kernel, by decide⟩
abbrev M_X3_bestTrait : zY := (yX3_bestTrait, cX3_bestTrait, 10, (some .int))
theorem cal_X3_bestTrait : zCal M_X3_bestTrait 4 := ⟨wc_X3_bestTrait, wn_X3, by decide +kernel, by decide⟩
abbrev M_X3_kindFor : zY := (yX3_kindFor, cX3_kindFor, 3, (some .int))
theorem cal_X3_kindFor : zCal M_X3_kindFor 2 := ⟨wc_X3_kindFor, wn_X3, by decide +kernel, by decide⟩
abbrev M_X3_stale : zY := (yX3_stale, cX3_stale, 4, (some .int))
theorem cal_X3_stale : zCal M_X3_stale 1 := ⟨wc_X3_stale, wn_X3, by decide +kernel, by decide⟩
abbrev M_X3_bound : zY := (yX3_bound, cX3_bound, 2, (some .int))
theorem cal_X3_bound : zCal M_X3_bound 1 := ⟨wc_X3_bound, wn_X3, by decide +kernel, by decide⟩
abbrev M_X3_law : zY := (yX3_law, cX3_law, 6, (some .int))
theorem cal_X3_law : zCal M_X3_law 2 := ⟨wc_X3_law, wn_X3, by decide +kernel, by decide⟩
abbrev M_X3_ways : zY := (yX3_ways, cX3_ways, 1, (some .long))
theorem cal_X3_ways : zCal M_X3_ways 0 := ⟨wc_X3_ways, wn_X3, by decide +kernel, by decide⟩
abbrev M_X3_waysThat : zY := (yX3_waysThat, cX3_waysThat, 8, (some .long))
theorem cal_X3_waysThat : zCal M_X3_waysThat 2 := ⟨wc_X3_waysThat, wn_X3, by decide +kernel, by decide⟩
abbrev M_X0_drawers : zY := (yX0_drawers, cX0_drawers, 1, (some .int))
theorem cal_X0_drawers : zCal M_X0_drawers 0 := ⟨wc_X0_drawers, wn_X0, by decide +kernel, by decide⟩
abbrev M_X0_canDeal : zY := (yX0_canDeal, cX0_canDeal, 3, (some .boolean))
theorem cal_X0_canDeal : zCal M_X0_canDeal 1 := ⟨wc_X0_canDeal, wn_X0, by decide +kernel, by decide⟩
abbrev M_X0_deal : zY := (yX0_deal, cX0_deal, 4, (none : Option Jvm.ClassFile.FieldType))
theorem cal_X0_deal : zCal M_X0_deal 1 := ⟨wc_X0_deal, wn_X0, by decide +kernel, by decide⟩
abbrev M_X3_isSo : zY := (yX3_isSo, cX3_isSo, 4, (some .boolean))
theorem cal_X3_isSo : zCal M_X3_isSo 3 := ⟨wc_X3_isSo, wn_X3, by decide +kernel, by decide⟩
abbrev M_X3_isSheet : zY := (yX3_isSheet, cX3_isSheet, 1, (some .boolean))
theorem cal_X3_isSheet : zCal M_X3_isSheet 1 := ⟨wc_X3_isSheet, wn_X3, by decide +kernel, by decide⟩
abbrev M_X0_fits : zY := (yX0_fits, cX0_fits, 3, (some .boolean))
theorem cal_X0_fits : zCal M_X0_fits 1 := ⟨wc_X0_fits, wn_X0, by decide +kernel, by decide⟩
abbrev M_X3_eats : zY := (yX3_eats, cX3_eats, 2, (some .long))
theorem cal_X3_eats : zCal M_X3_eats 1 := ⟨wc_X3_eats, wn_X3, by decide +kernel, by decide⟩
abbrev M_X3_busy : zY := (yX3_busy, cX3_busy, 2, (some .long))
theorem cal_X3_busy : zCal M_X3_busy 1 := ⟨wc_X3_busy, wn_X3, by decide +kernel, by decide⟩
abbrev M_X3_famine : zY := (yX3_famine, cX3_famine, 3, (some .int))
theorem cal_X3_famine : zCal M_X3_famine 1 := ⟨wc_X3_famine, wn_X3, by decide +kernel, by decide⟩
abbrev M_X0_strike : zY := (yX0_strike, cX0_strike, 2, (none : Option Jvm.ClassFile.FieldType))
theorem cal_X0_strike : zCal M_X0_strike 0 := ⟨wc_X0_strike, wn_X0, by decide +kernel, by decide⟩
abbrev M_X3_seed : zY := (yX3_seed, cX3_seed, 3, (some .int))
theorem cal_X3_seed : zCal M_X3_seed 1 := ⟨wc_X3_seed, wn_X3, by decide +kernel, by decide⟩
abbrev M_X3_feed : zY := (yX3_feed, cX3_feed, 4, (some .int))
theorem cal_X3_feed : zCal M_X3_feed 2 := ⟨wc_X3_feed, wn_X3, by decide +kernel, by decide⟩
abbrev M_X2_append : zY := (yX2_append, cX2_append, 2, (none : Option Jvm.ClassFile.FieldType))
theorem cal_X2_append : zCal M_X2_append 1 := ⟨wc_X2_append, wn_X2, by decide +kernel, by decide⟩
abbrev M_X3_wipe : zY := (yX3_wipe, cX3_wipe, 2, (some .int))
theorem cal_X3_wipe : zCal M_X3_wipe 0 := ⟨wc_X3_wipe, wn_X3, by decide +kernel, by decide⟩
abbrev M_X3_text : zY := (yX3_text, cX3_text, 5, (some .int))
theorem cal_X3_text : zCal M_X3_text 0 := ⟨wc_X3_text, wn_X3, by decide +kernel, by decide⟩
abbrev M_X2_rewind : zY := (yX2_rewind, cX2_rewind, 1, (none : Option Jvm.ClassFile.FieldType))
theorem cal_X2_rewind : zCal M_X2_rewind 0 := ⟨wc_X2_rewind, wn_X2, by decide +kernel, by decide⟩
abbrev M_X2_advance : zY := (yX2_advance, cX2_advance, 1, (none : Option Jvm.ClassFile.FieldType))
theorem cal_X2_advance : zCal M_X2_advance 0 := ⟨wc_X2_advance, wn_X2, by decide +kernel, by decide⟩
abbrev M_X2_isLetter : zY := (yX2_isLetter, cX2_isLetter, 1, (some .boolean))
theorem cal_X2_isLetter : zCal M_X2_isLetter 1 := ⟨wc_X2_isLetter, wn_X2, by decide +kernel, by decide⟩
abbrev M_X2_readWord : zY := (yX2_readWord, cX2_readWord, 1, (none : Option Jvm.ClassFile.FieldType))
theorem cal_X2_readWord : zCal M_X2_readWord 0 := ⟨wc_X2_readWord, wn_X2, by decide +kernel, by decide⟩
abbrev M_X2_isDigit : zY := (yX2_isDigit, cX2_isDigit, 1, (some .boolean))
theorem cal_X2_isDigit : zCal M_X2_isDigit 1 := ⟨wc_X2_isDigit, wn_X2, by decide +kernel, by decide⟩
abbrev M_X2_readNumber : zY := (yX2_readNumber, cX2_readNumber, 1, (none : Option Jvm.ClassFile.FieldType))
theorem cal_X2_readNumber : zCal M_X2_readNumber 0 := ⟨wc_X2_readNumber, wn_X2, by decide +kernel, by decide⟩
abbrev M_X3_readItem : zY := (yX3_readItem, cX3_readItem, 3, (some .boolean))
theorem cal_X3_readItem : zCal M_X3_readItem 0 := ⟨wc_X3_readItem, wn_X3, by decide +kernel, by decide⟩
abbrev M_X2_kindTold : zY := (yX2_kindTold, cX2_kindTold, 2, (some .int))
theorem cal_X2_kindTold : zCal M_X2_kindTold 0 := ⟨wc_X2_kindTold, wn_X2, by decide +kernel, by decide⟩
abbrev M_X2_kindWord : zY := (yX2_kindWord, cX2_kindWord, 1, (some (.object "java/lang/String")))
theorem cal_X2_kindWord : zCal M_X2_kindWord 1 := ⟨wc_X2_kindWord, wn_X2, by decide +kernel, by decide⟩
abbrev M_X2_isWord : zY := (yX2_isWord, cX2_isWord, 3, (some .boolean))
theorem cal_X2_isWord : zCal M_X2_isWord 1 := ⟨wc_X2_isWord, wn_X2, by decide +kernel, by decide⟩
abbrev M_J0_length_8abf5 : zY := (yJ0_length_8abf5, cJ0_length_8abf5, 1, (some .int))
theorem cal_J0_length_8abf5 : zCal M_J0_length_8abf5 0 := ⟨wc_J0_length_8abf5, wn_J0, by decide +kernel, by decide⟩
abbrev M_J0_coder_7d493 : zY := (yJ0_coder_7d493, cJ0_coder_7d493, 1, (some .byte))
theorem cal_J0_coder_7d493 : zCal M_J0_coder_7d493 0 := ⟨wc_J0_coder_7d493, wn_J0, by decide +kernel, by decide⟩
abbrev M_J0_charAt_5068e : zY := (yJ0_charAt_5068e, cJ0_charAt_5068e, 2, (some .char))
theorem cal_J0_charAt_5068e : zCal M_J0_charAt_5068e 1 := ⟨wc_J0_charAt_5068e, wn_J0, by decide +kernel, by decide⟩
abbrev M_J0_isLatin1_aae02 : zY := (yJ0_isLatin1_aae02, cJ0_isLatin1_aae02, 1, (some .boolean))
theorem cal_J0_isLatin1_aae02 : zCal M_J0_isLatin1_aae02 0 := ⟨wc_J0_isLatin1_aae02, wn_J0, by decide +kernel, by decide⟩
abbrev M_J1_charAt_3b067 : zY := (yJ1_charAt_3b067, cJ1_charAt_3b067, 2, (some .char))
theorem cal_J1_charAt_3b067 : zCal M_J1_charAt_3b067 2 := ⟨wc_J1_charAt_3b067, wn_J1, by decide +kernel, by decide⟩
abbrev M_J0_checkIndex_df160 : zY := (yJ0_checkIndex_df160, cJ0_checkIndex_df160, 2, (none : Option Jvm.ClassFile.FieldType))
theorem cal_J0_checkIndex_df160 : zCal M_J0_checkIndex_df160 2 := ⟨wc_J0_checkIndex_df160, wn_J0, by decide +kernel, by decide⟩
abbrev M_J3_checkIndex_8e157 : zY := (yJ3_checkIndex_8e157, cJ3_checkIndex_8e157, 3, (some .int))
theorem cal_J3_checkIndex_8e157 : zCal M_J3_checkIndex_8e157 3 := ⟨wc_J3_checkIndex_8e157, wn_J3, by decide +kernel, by decide⟩
abbrev M_J2_charAt_3b067 : zY := (yJ2_charAt_3b067, cJ2_charAt_3b067, 2, (some .char))
theorem cal_J2_charAt_3b067 : zCal M_J2_charAt_3b067 2 := ⟨wc_J2_charAt_3b067, wn_J2, by decide +kernel, by decide⟩
abbrev M_J2_checkIndex_2214a : zY := (yJ2_checkIndex_2214a, cJ2_checkIndex_2214a, 2, (none : Option Jvm.ClassFile.FieldType))
theorem cal_J2_checkIndex_2214a : zCal M_J2_checkIndex_2214a 2 := ⟨wc_J2_checkIndex_2214a, wn_J2, by decide +kernel, by decide⟩
abbrev M_J2_length_9d52b : zY := (yJ2_length_9d52b, cJ2_length_9d52b, 1, (some .int))
theorem cal_J2_length_9d52b : zCal M_J2_length_9d52b 1 := ⟨wc_J2_length_9d52b, wn_J2, by decide +kernel, by decide⟩
abbrev M_J2_getChar_3b067 : zY := (yJ2_getChar_3b067, cJ2_getChar_3b067, 2, (some .char))
theorem cal_J2_getChar_3b067 : zCal M_J2_getChar_3b067 2 := ⟨wc_J2_getChar_3b067, wn_J2, by decide +kernel, by decide⟩
abbrev M_X3_readCitizen : zY := (yX3_readCitizen, cX3_readCitizen, 3, (some .boolean))
theorem cal_X3_readCitizen : zCal M_X3_readCitizen 1 := ⟨wc_X3_readCitizen, wn_X3, by decide +kernel, by decide⟩
abbrev M_X3_readTrait : zY := (yX3_readTrait, cX3_readTrait, 3, (some .boolean))
theorem cal_X3_readTrait : zCal M_X3_readTrait 2 := ⟨wc_X3_readTrait, wn_X3, by decide +kernel, by decide⟩
abbrev M_X3_readRuling : zY := (yX3_readRuling, cX3_readRuling, 2, (some .boolean))
theorem cal_X3_readRuling : zCal M_X3_readRuling 1 := ⟨wc_X3_readRuling, wn_X3, by decide +kernel, by decide⟩
abbrev M_X3_hold : zY := (yX3_hold, cX3_hold, 3, (some .int))
theorem cal_X3_hold : zCal M_X3_hold 2 := ⟨wc_X3_hold, wn_X3, by decide +kernel, by decide⟩
abbrev M_X3_isSpot : zY := (yX3_isSpot, cX3_isSpot, 1, (some .boolean))
theorem cal_X3_isSpot : zCal M_X3_isSpot 1 := ⟨wc_X3_isSpot, wn_X3, by decide +kernel, by decide⟩
abbrev M_X3_as : zY := (yX3_as, cX3_as, 4, (some .int))
theorem cal_X3_as : zCal M_X3_as 2 := ⟨wc_X3_as, wn_X3, by decide +kernel, by decide⟩
abbrev M_X3_isUnder : zY := (yX3_isUnder, cX3_isUnder, 4, (some .boolean))
theorem cal_X3_isUnder : zCal M_X3_isUnder 2 := ⟨wc_X3_isUnder, wn_X3, by decide +kernel, by decide⟩
abbrev M_X3_sheet : zY := (yX3_sheet, cX3_sheet, 5, (some .int))
theorem cal_X3_sheet : zCal M_X3_sheet 3 := ⟨wc_X3_sheet, wn_X3, by decide +kernel, by decide⟩
abbrev M_X1_renew : zY := (yX1_renew, cX1_renew, 4, (none : Option Jvm.ClassFile.FieldType))
theorem cal_X1_renew : zCal M_X1_renew 2 := ⟨wc_X1_renew, wn_X1, by decide +kernel, by decide⟩
abbrev M_X3_write : zY := (yX3_write, cX3_write, 5, (some .int))
theorem cal_X3_write : zCal M_X3_write 3 := ⟨wc_X3_write, wn_X3, by decide +kernel, by decide⟩
abbrev M_X3_sheetHindrance : zY := (yX3_sheetHindrance, cX3_sheetHindrance, 2, (some .int))
theorem cal_X3_sheetHindrance : zCal M_X3_sheetHindrance 1 := ⟨wc_X3_sheetHindrance, wn_X3, by decide +kernel, by decide⟩
abbrev M_X1_put : zY := (yX1_put, cX1_put, 3, (none : Option Jvm.ClassFile.FieldType))
theorem cal_X1_put : zCal M_X1_put 2 := ⟨wc_X1_put, wn_X1, by decide +kernel, by decide⟩
abbrev M_X3_copy : zY := (yX3_copy, cX3_copy, 8, (some .int))
theorem cal_X3_copy : zCal M_X3_copy 5 := ⟨wc_X3_copy, wn_X3, by decide +kernel, by decide⟩
abbrev M_X1_spans : zY := (yX1_spans, cX1_spans, 3, (some .boolean))
theorem cal_X1_spans : zCal M_X1_spans 2 := ⟨wc_X1_spans, wn_X1, by decide +kernel, by decide⟩
abbrev M_X3_load : zY := (yX3_load, cX3_load, 6, (some .int))
theorem cal_X3_load : zCal M_X3_load 1 := ⟨wc_X3_load, wn_X3, by decide +kernel, by decide⟩
abbrev M_X3_tally : zY := (yX3_tally, cX3_tally, 3, (some .long))
theorem cal_X3_tally : zCal M_X3_tally 1 := ⟨wc_X3_tally, wn_X3, by decide +kernel, by decide⟩
abbrev M_X3_judge : zY := (yX3_judge, cX3_judge, 5, (some .int))
theorem cal_X3_judge : zCal M_X3_judge 1 := ⟨wc_X3_judge, wn_X3, by decide +kernel, by decide⟩
abbrev M_X3_image : zY := (yX3_image, cX3_image, 1, (some .int))
theorem cal_X3_image : zCal M_X3_image 0 := ⟨wc_X3_image, wn_X3, by decide +kernel, by decide⟩
abbrev M_X3_undo : zY := (yX3_undo, cX3_undo, 1, (some .int))
theorem cal_X3_undo : zCal M_X3_undo 0 := ⟨wc_X3_undo, wn_X3, by decide +kernel, by decide⟩
abbrev M_X3_tear : zY := (yX3_tear, cX3_tear, 2, (some .int))
theorem cal_X3_tear : zCal M_X3_tear 0 := ⟨wc_X3_tear, wn_X3, by decide +kernel, by decide⟩
abbrev M_X3_count : zY := (yX3_count, cX3_count, 2, (some .int))
theorem cal_X3_count : zCal M_X3_count 1 := ⟨wc_X3_count, wn_X3, by decide +kernel, by decide⟩
abbrev M_X0_heldSpots : zY := (yX0_heldSpots, cX0_heldSpots, 3, (some .int))
theorem cal_X0_heldSpots : zCal M_X0_heldSpots 0 := ⟨wc_X0_heldSpots, wn_X0, by decide +kernel, by decide⟩
abbrev M_X3_status : zY := (yX3_status, cX3_status, 4, (some .int))
theorem cal_X3_status : zCal M_X3_status 1 := ⟨wc_X3_status, wn_X3, by decide +kernel, by decide⟩
abbrev M_X4_init : zY := (yX4_init, cX4_init, 2, (none : Option Jvm.ClassFile.FieldType))
theorem cal_X4_init : zCal M_X4_init 0 := ⟨wc_X4_init, wn_X4, by decide +kernel, by decide⟩
abbrev M_X4_citizen : zY := (yX4_citizen, cX4_citizen, 2, (some .int))
theorem cal_X4_citizen : zCal M_X4_citizen 1 := ⟨wc_X4_citizen, wn_X4, by decide +kernel, by decide⟩
abbrev M_X4_isKind : zY := (yX4_isKind, cX4_isKind, 1, (some .boolean))
theorem cal_X4_isKind : zCal M_X4_isKind 1 := ⟨wc_X4_isKind, wn_X4, by decide +kernel, by decide⟩
abbrev M_X4_in : zY := (yX4_in, cX4_in, 6, (some .boolean))
theorem cal_X4_in : zCal M_X4_in 3 := ⟨wc_X4_in, wn_X4, by decide +kernel, by decide⟩
abbrev M_X4_finds : zY := (yX4_finds, cX4_finds, 2, (some .int))
theorem cal_X4_finds : zCal M_X4_finds 1 := ⟨wc_X4_finds, wn_X4, by decide +kernel, by decide⟩
abbrev M_X4_comes : zY := (yX4_comes, cX4_comes, 7, (some .int))
theorem cal_X4_comes : zCal M_X4_comes 5 := ⟨wc_X4_comes, wn_X4, by decide +kernel, by decide⟩
abbrev M_X4_makes : zY := (yX4_makes, cX4_makes, 4, (none : Option Jvm.ClassFile.FieldType))
theorem cal_X4_makes : zCal M_X4_makes 3 := ⟨wc_X4_makes, wn_X4, by decide +kernel, by decide⟩
abbrev M_X4_of : zY := (yX4_of, cX4_of, 3, (some .int))
theorem cal_X4_of : zCal M_X4_of 2 := ⟨wc_X4_of, wn_X4, by decide +kernel, by decide⟩
abbrev M_X4_isOne : zY := (yX4_isOne, cX4_isOne, 2, (some .boolean))
theorem cal_X4_isOne : zCal M_X4_isOne 1 := ⟨wc_X4_isOne, wn_X4, by decide +kernel, by decide⟩
abbrev M_X4_is : zY := (yX4_is, cX4_is, 3, (some .int))
theorem cal_X4_is : zCal M_X4_is 2 := ⟨wc_X4_is, wn_X4, by decide +kernel, by decide⟩
abbrev M_X4_loafWorth : zY := (yX4_loafWorth, cX4_loafWorth, 4, (some .int))
theorem cal_X4_loafWorth : zCal M_X4_loafWorth 1 := ⟨wc_X4_loafWorth, wn_X4, by decide +kernel, by decide⟩
abbrev M_X4_seatWorth : zY := (yX4_seatWorth, cX4_seatWorth, 3, (some .int))
theorem cal_X4_seatWorth : zCal M_X4_seatWorth 1 := ⟨wc_X4_seatWorth, wn_X4, by decide +kernel, by decide⟩
abbrev M_X4_change : zY := (yX4_change, cX4_change, 4, (some .int))
theorem cal_X4_change : zCal M_X4_change 3 := ⟨wc_X4_change, wn_X4, by decide +kernel, by decide⟩
abbrev M_X4_isPart : zY := (yX4_isPart, cX4_isPart, 2, (some .boolean))
theorem cal_X4_isPart : zCal M_X4_isPart 2 := ⟨wc_X4_isPart, wn_X4, by decide +kernel, by decide⟩
abbrev M_X4_isHunger : zY := (yX4_isHunger, cX4_isHunger, 1, (some .boolean))
theorem cal_X4_isHunger : zCal M_X4_isHunger 1 := ⟨wc_X4_isHunger, wn_X4, by decide +kernel, by decide⟩
abbrev M_X4_becomes : zY := (yX4_becomes, cX4_becomes, 4, (some .int))
theorem cal_X4_becomes : zCal M_X4_becomes 2 := ⟨wc_X4_becomes, wn_X4, by decide +kernel, by decide⟩
abbrev M_X4_rule : zY := (yX4_rule, cX4_rule, 3, (some .int))
theorem cal_X4_rule : zCal M_X4_rule 2 := ⟨wc_X4_rule, wn_X4, by decide +kernel, by decide⟩
abbrev M_X4_isRule : zY := (yX4_isRule, cX4_isRule, 2, (some .boolean))
theorem cal_X4_isRule : zCal M_X4_isRule 2 := ⟨wc_X4_isRule, wn_X4, by decide +kernel, by decide⟩
abbrev M_X4_now : zY := (yX4_now, cX4_now, 2, (some .int))
theorem cal_X4_now : zCal M_X4_now 1 := ⟨wc_X4_now, wn_X4, by decide +kernel, by decide⟩
abbrev M_X4_with : zY := (yX4_with, cX4_with, 4, (some .int))
theorem cal_X4_with : zCal M_X4_with 1 := ⟨wc_X4_with, wn_X4, by decide +kernel, by decide⟩
abbrev M_X4_hungry : zY := (yX4_hungry, cX4_hungry, 3, (some .int))
theorem cal_X4_hungry : zCal M_X4_hungry 0 := ⟨wc_X4_hungry, wn_X4, by decide +kernel, by decide⟩
abbrev M_X4_cost : zY := (yX4_cost, cX4_cost, 1, (some .int))
theorem cal_X4_cost : zCal M_X4_cost 0 := ⟨wc_X4_cost, wn_X4, by decide +kernel, by decide⟩
abbrev M_X4_wants : zY := (yX4_wants, cX4_wants, 2, (some .int))
theorem cal_X4_wants : zCal M_X4_wants 1 := ⟨wc_X4_wants, wn_X4, by decide +kernel, by decide⟩
abbrev M_X4_wantsOther : zY := (yX4_wantsOther, cX4_wantsOther, 3, (some .boolean))
theorem cal_X4_wantsOther : zCal M_X4_wantsOther 1 := ⟨wc_X4_wantsOther, wn_X4, by decide +kernel, by decide⟩
abbrev M_X4_swap : zY := (yX4_swap, cX4_swap, 4, (some .int))
theorem cal_X4_swap : zCal M_X4_swap 2 := ⟨wc_X4_swap, wn_X4, by decide +kernel, by decide⟩
abbrev M_X4_changeTokens : zY := (yX4_changeTokens, cX4_changeTokens, 4, (none : Option Jvm.ClassFile.FieldType))
theorem cal_X4_changeTokens : zCal M_X4_changeTokens 2 := ⟨wc_X4_changeTokens, wn_X4, by decide +kernel, by decide⟩
abbrev M_X4_gates : zY := (yX4_gates, cX4_gates, 1, (some .int))
theorem cal_X4_gates : zCal M_X4_gates 0 := ⟨wc_X4_gates, wn_X4, by decide +kernel, by decide⟩
abbrev M_X4_opens : zY := (yX4_opens, cX4_opens, 4, (some .int))
theorem cal_X4_opens : zCal M_X4_opens 0 := ⟨wc_X4_opens, wn_X4, by decide +kernel, by decide⟩
abbrev M_X4_firstWanting : zY := (yX4_firstWanting, cX4_firstWanting, 3, (some .int))
theorem cal_X4_firstWanting : zCal M_X4_firstWanting 1 := ⟨wc_X4_firstWanting, wn_X4, by decide +kernel, by decide⟩
abbrev M_X4_changes : zY := (yX4_changes, cX4_changes, 2, (some .int))
theorem cal_X4_changes : zCal M_X4_changes 0 := ⟨wc_X4_changes, wn_X4, by decide +kernel, by decide⟩
abbrev M_X4_row : zY := (yX4_row, cX4_row, 3, (none : Option Jvm.ClassFile.FieldType))
theorem cal_X4_row : zCal M_X4_row 2 := ⟨wc_X4_row, wn_X4, by decide +kernel, by decide⟩
abbrev M_X4_buy : zY := (yX4_buy, cX4_buy, 4, (some .int))
theorem cal_X4_buy : zCal M_X4_buy 3 := ⟨wc_X4_buy, wn_X4, by decide +kernel, by decide⟩
abbrev M_X4_mayBuy : zY := (yX4_mayBuy, cX4_mayBuy, 5, (some .boolean))
theorem cal_X4_mayBuy : zCal M_X4_mayBuy 3 := ⟨wc_X4_mayBuy, wn_X4, by decide +kernel, by decide⟩
abbrev M_X4_worth : zY := (yX4_worth, cX4_worth, 3, (some .int))
theorem cal_X4_worth : zCal M_X4_worth 2 := ⟨wc_X4_worth, wn_X4, by decide +kernel, by decide⟩
abbrev M_X4_welfare : zY := (yX4_welfare, cX4_welfare, 3, (some .int))
theorem cal_X4_welfare : zCal M_X4_welfare 0 := ⟨wc_X4_welfare, wn_X4, by decide +kernel, by decide⟩
abbrev M_X4_most : zY := (yX4_most, cX4_most, 7, (some .int))
theorem cal_X4_most : zCal M_X4_most 0 := ⟨wc_X4_most, wn_X4, by decide +kernel, by decide⟩
abbrev M_X4_many : zY := (yX4_many, cX4_many, 3, (some .int))
theorem cal_X4_many : zCal M_X4_many 1 := ⟨wc_X4_many, wn_X4, by decide +kernel, by decide⟩
abbrev M_X4_price : zY := (yX4_price, cX4_price, 5, (some .int))
theorem cal_X4_price : zCal M_X4_price 0 := ⟨wc_X4_price, wn_X4, by decide +kernel, by decide⟩
abbrev M_X4_weeks : zY := (yX4_weeks, cX4_weeks, 3, (some .int))
theorem cal_X4_weeks : zCal M_X4_weeks 1 := ⟨wc_X4_weeks, wn_X4, by decide +kernel, by decide⟩
abbrev M_X4_areWeeks : zY := (yX4_areWeeks, cX4_areWeeks, 1, (some .boolean))
theorem cal_X4_areWeeks : zCal M_X4_areWeeks 1 := ⟨wc_X4_areWeeks, wn_X4, by decide +kernel, by decide⟩
abbrev M_X4_isLate : zY := (yX4_isLate, cX4_isLate, 2, (some .boolean))
theorem cal_X4_isLate : zCal M_X4_isLate 1 := ⟨wc_X4_isLate, wn_X4, by decide +kernel, by decide⟩
abbrev M_X4_goes : zY := (yX4_goes, cX4_goes, 4, (some .int))
theorem cal_X4_goes : zCal M_X4_goes 1 := ⟨wc_X4_goes, wn_X4, by decide +kernel, by decide⟩
abbrev M_X4_aWeek : zY := (yX4_aWeek, cX4_aWeek, 3, (some .int))
theorem cal_X4_aWeek : zCal M_X4_aWeek 0 := ⟨wc_X4_aWeek, wn_X4, by decide +kernel, by decide⟩
abbrev M_X4_drawsTokens : zY := (yX4_drawsTokens, cX4_drawsTokens, 6, (none : Option Jvm.ClassFile.FieldType))
theorem cal_X4_drawsTokens : zCal M_X4_drawsTokens 0 := ⟨wc_X4_drawsTokens, wn_X4, by decide +kernel, by decide⟩
abbrev M_X4_draw : zY := (yX4_draw, cX4_draw, 1, (some .int))
theorem cal_X4_draw : zCal M_X4_draw 0 := ⟨wc_X4_draw, wn_X4, by decide +kernel, by decide⟩
abbrev M_X4_eatAndSee : zY := (yX4_eatAndSee, cX4_eatAndSee, 4, (none : Option Jvm.ClassFile.FieldType))
theorem cal_X4_eatAndSee : zCal M_X4_eatAndSee 0 := ⟨wc_X4_eatAndSee, wn_X4, by decide +kernel, by decide⟩
abbrev M_X4_ahead : zY := (yX4_ahead, cX4_ahead, 6, (some .int))
theorem cal_X4_ahead : zCal M_X4_ahead 2 := ⟨wc_X4_ahead, wn_X4, by decide +kernel, by decide⟩
abbrev M_X4_sum : zY := (yX4_sum, cX4_sum, 4, (some .int))
theorem cal_X4_sum : zCal M_X4_sum 1 := ⟨wc_X4_sum, wn_X4, by decide +kernel, by decide⟩
abbrev M_X4_riot : zY := (yX4_riot, cX4_riot, 3, (some .int))
theorem cal_X4_riot : zCal M_X4_riot 0 := ⟨wc_X4_riot, wn_X4, by decide +kernel, by decide⟩
abbrev M_X4_orNone : zY := (yX4_orNone, cX4_orNone, 2, (some .int))
theorem cal_X4_orNone : zCal M_X4_orNone 1 := ⟨wc_X4_orNone, wn_X4, by decide +kernel, by decide⟩
abbrev M_X4_next : zY := (yX4_next, cX4_next, 3, (some .int))
theorem cal_X4_next : zCal M_X4_next 1 := ⟨wc_X4_next, wn_X4, by decide +kernel, by decide⟩
abbrev M_X4_loaves : zY := (yX4_loaves, cX4_loaves, 3, (some .int))
theorem cal_X4_loaves : zCal M_X4_loaves 1 := ⟨wc_X4_loaves, wn_X4, by decide +kernel, by decide⟩
abbrev M_X4_tries : zY := (yX4_tries, cX4_tries, 6, (some .int))
theorem cal_X4_tries : zCal M_X4_tries 3 := ⟨wc_X4_tries, wn_X4, by decide +kernel, by decide⟩
abbrev M_X4_cheapest : zY := (yX4_cheapest, cX4_cheapest, 7, (some .int))
theorem cal_X4_cheapest : zCal M_X4_cheapest 1 := ⟨wc_X4_cheapest, wn_X4, by decide +kernel, by decide⟩
abbrev M_X4_leader : zY := (yX4_leader, cX4_leader, 5, (some .int))
theorem cal_X4_leader : zCal M_X4_leader 1 := ⟨wc_X4_leader, wn_X4, by decide +kernel, by decide⟩
abbrev M_X4_colourFor : zY := (yX4_colourFor, cX4_colourFor, 5, (some .int))
theorem cal_X4_colourFor : zCal M_X4_colourFor 2 := ⟨wc_X4_colourFor, wn_X4, by decide +kernel, by decide⟩
abbrev M_X4_ofThen : zY := (yX4_ofThen, cX4_ofThen, 7, (some .int))
theorem cal_X4_ofThen : zCal M_X4_ofThen 5 := ⟨wc_X4_ofThen, wn_X4, by decide +kernel, by decide⟩
abbrev M_X4_kindFor : zY := (yX4_kindFor, cX4_kindFor, 5, (some .int))
theorem cal_X4_kindFor : zCal M_X4_kindFor 2 := ⟨wc_X4_kindFor, wn_X4, by decide +kernel, by decide⟩
abbrev M_X4_stale : zY := (yX4_stale, cX4_stale, 3, (some .int))
theorem cal_X4_stale : zCal M_X4_stale 1 := ⟨wc_X4_stale, wn_X4, by decide +kernel, by decide⟩
abbrev M_X4_bound : zY := (yX4_bound, cX4_bound, 3, (some .int))
theorem cal_X4_bound : zCal M_X4_bound 1 := ⟨wc_X4_bound, wn_X4, by decide +kernel, by decide⟩
abbrev M_X4_law : zY := (yX4_law, cX4_law, 5, (some .int))
theorem cal_X4_law : zCal M_X4_law 2 := ⟨wc_X4_law, wn_X4, by decide +kernel, by decide⟩
abbrev M_X4_ways : zY := (yX4_ways, cX4_ways, 4, (some .long))
theorem cal_X4_ways : zCal M_X4_ways 0 := ⟨wc_X4_ways, wn_X4, by decide +kernel, by decide⟩
abbrev M_X4_drawing : zY := (yX4_drawing, cX4_drawing, 2, (some .int))
theorem cal_X4_drawing : zCal M_X4_drawing 0 := ⟨wc_X4_drawing, wn_X4, by decide +kernel, by decide⟩
abbrev M_X4_isWay : zY := (yX4_isWay, cX4_isWay, 3, (some .boolean))
theorem cal_X4_isWay : zCal M_X4_isWay 1 := ⟨wc_X4_isWay, wn_X4, by decide +kernel, by decide⟩
abbrev M_X4_eats : zY := (yX4_eats, cX4_eats, 5, (some .long))
theorem cal_X4_eats : zCal M_X4_eats 1 := ⟨wc_X4_eats, wn_X4, by decide +kernel, by decide⟩
abbrev M_X4_lies : zY := (yX4_lies, cX4_lies, 3, (none : Option Jvm.ClassFile.FieldType))
theorem cal_X4_lies : zCal M_X4_lies 1 := ⟨wc_X4_lies, wn_X4, by decide +kernel, by decide⟩
abbrev M_X4_busy : zY := (yX4_busy, cX4_busy, 5, (some .long))
theorem cal_X4_busy : zCal M_X4_busy 1 := ⟨wc_X4_busy, wn_X4, by decide +kernel, by decide⟩
abbrev M_X4_famine : zY := (yX4_famine, cX4_famine, 4, (some .int))
theorem cal_X4_famine : zCal M_X4_famine 1 := ⟨wc_X4_famine, wn_X4, by decide +kernel, by decide⟩
abbrev M_X4_seed : zY := (yX4_seed, cX4_seed, 2, (some .int))
theorem cal_X4_seed : zCal M_X4_seed 1 := ⟨wc_X4_seed, wn_X4, by decide +kernel, by decide⟩
abbrev M_X4_feed : zY := (yX4_feed, cX4_feed, 4, (some .int))
theorem cal_X4_feed : zCal M_X4_feed 2 := ⟨wc_X4_feed, wn_X4, by decide +kernel, by decide⟩
abbrev M_X4_wipe : zY := (yX4_wipe, cX4_wipe, 2, (some .int))
theorem cal_X4_wipe : zCal M_X4_wipe 0 := ⟨wc_X4_wipe, wn_X4, by decide +kernel, by decide⟩
abbrev M_X4_text : zY := (yX4_text, cX4_text, 4, (some .int))
theorem cal_X4_text : zCal M_X4_text 0 := ⟨wc_X4_text, wn_X4, by decide +kernel, by decide⟩
abbrev M_X4_token : zY := (yX4_token, cX4_token, 1, (none : Option Jvm.ClassFile.FieldType))
theorem cal_X4_token : zCal M_X4_token 0 := ⟨wc_X4_token, wn_X4, by decide +kernel, by decide⟩
abbrev M_X4_isByte : zY := (yX4_isByte, cX4_isByte, 4, (some .boolean))
theorem cal_X4_isByte : zCal M_X4_isByte 3 := ⟨wc_X4_isByte, wn_X4, by decide +kernel, by decide⟩
abbrev M_X4_item : zY := (yX4_item, cX4_item, 2, (none : Option Jvm.ClassFile.FieldType))
theorem cal_X4_item : zCal M_X4_item 0 := ⟨wc_X4_item, wn_X4, by decide +kernel, by decide⟩
abbrev M_X4_kindHere : zY := (yX4_kindHere, cX4_kindHere, 1, (some .int))
theorem cal_X4_kindHere : zCal M_X4_kindHere 0 := ⟨wc_X4_kindHere, wn_X4, by decide +kernel, by decide⟩
abbrev M_X4_isWord : zY := (yX4_isWord, cX4_isWord, 4, (some .boolean))
theorem cal_X4_isWord : zCal M_X4_isWord 1 := ⟨wc_X4_isWord, wn_X4, by decide +kernel, by decide⟩
abbrev M_X4_citizenItem : zY := (yX4_citizenItem, cX4_citizenItem, 6, (none : Option Jvm.ClassFile.FieldType))
theorem cal_X4_citizenItem : zCal M_X4_citizenItem 1 := ⟨wc_X4_citizenItem, wn_X4, by decide +kernel, by decide⟩
abbrev M_X4_takes : zY := (yX4_takes, cX4_takes, 2, (some .boolean))
theorem cal_X4_takes : zCal M_X4_takes 1 := ⟨wc_X4_takes, wn_X4, by decide +kernel, by decide⟩
abbrev M_X4_number : zY := (yX4_number, cX4_number, 4, (some .int))
theorem cal_X4_number : zCal M_X4_number 2 := ⟨wc_X4_number, wn_X4, by decide +kernel, by decide⟩
abbrev M_X4_ruleHere : zY := (yX4_ruleHere, cX4_ruleHere, 1, (some .int))
theorem cal_X4_ruleHere : zCal M_X4_ruleHere 0 := ⟨wc_X4_ruleHere, wn_X4, by decide +kernel, by decide⟩
abbrev M_X4_ruleItem : zY := (yX4_ruleItem, cX4_ruleItem, 3, (none : Option Jvm.ClassFile.FieldType))
theorem cal_X4_ruleItem : zCal M_X4_ruleItem 1 := ⟨wc_X4_ruleItem, wn_X4, by decide +kernel, by decide⟩
abbrev M_X4_isSign : zY := (yX4_isSign, cX4_isSign, 2, (some .boolean))
theorem cal_X4_isSign : zCal M_X4_isSign 1 := ⟨wc_X4_isSign, wn_X4, by decide +kernel, by decide⟩
abbrev M_X4_hold : zY := (yX4_hold, cX4_hold, 3, (some .int))
theorem cal_X4_hold : zCal M_X4_hold 2 := ⟨wc_X4_hold, wn_X4, by decide +kernel, by decide⟩
abbrev M_X4_as : zY := (yX4_as, cX4_as, 5, (some .int))
theorem cal_X4_as : zCal M_X4_as 2 := ⟨wc_X4_as, wn_X4, by decide +kernel, by decide⟩
abbrev M_X4_above : zY := (yX4_above, cX4_above, 1, (some .int))
theorem cal_X4_above : zCal M_X4_above 1 := ⟨wc_X4_above, wn_X4, by decide +kernel, by decide⟩
abbrev M_X4_sheet : zY := (yX4_sheet, cX4_sheet, 5, (some .int))
theorem cal_X4_sheet : zCal M_X4_sheet 3 := ⟨wc_X4_sheet, wn_X4, by decide +kernel, by decide⟩
abbrev M_X4_isSheet : zY := (yX4_isSheet, cX4_isSheet, 1, (some .boolean))
theorem cal_X4_isSheet : zCal M_X4_isSheet 1 := ⟨wc_X4_isSheet, wn_X4, by decide +kernel, by decide⟩
abbrev M_X4_write : zY := (yX4_write, cX4_write, 4, (some .int))
theorem cal_X4_write : zCal M_X4_write 3 := ⟨wc_X4_write, wn_X4, by decide +kernel, by decide⟩
abbrev M_X4_copy : zY := (yX4_copy, cX4_copy, 9, (some .int))
theorem cal_X4_copy : zCal M_X4_copy 5 := ⟨wc_X4_copy, wn_X4, by decide +kernel, by decide⟩
abbrev M_X4_load : zY := (yX4_load, cX4_load, 3, (some .int))
theorem cal_X4_load : zCal M_X4_load 1 := ⟨wc_X4_load, wn_X4, by decide +kernel, by decide⟩
abbrev M_X4_tally : zY := (yX4_tally, cX4_tally, 7, (some .long))
theorem cal_X4_tally : zCal M_X4_tally 1 := ⟨wc_X4_tally, wn_X4, by decide +kernel, by decide⟩
abbrev M_X4_judge : zY := (yX4_judge, cX4_judge, 4, (some .int))
theorem cal_X4_judge : zCal M_X4_judge 1 := ⟨wc_X4_judge, wn_X4, by decide +kernel, by decide⟩
abbrev M_X4_image : zY := (yX4_image, cX4_image, 1, (some .int))
theorem cal_X4_image : zCal M_X4_image 0 := ⟨wc_X4_image, wn_X4, by decide +kernel, by decide⟩
abbrev M_X4_undo : zY := (yX4_undo, cX4_undo, 1, (some .int))
theorem cal_X4_undo : zCal M_X4_undo 0 := ⟨wc_X4_undo, wn_X4, by decide +kernel, by decide⟩
abbrev M_X4_tear : zY := (yX4_tear, cX4_tear, 2, (some .int))
theorem cal_X4_tear : zCal M_X4_tear 0 := ⟨wc_X4_tear, wn_X4, by decide +kernel, by decide⟩
abbrev M_X4_count : zY := (yX4_count, cX4_count, 2, (some .int))
theorem cal_X4_count : zCal M_X4_count 1 := ⟨wc_X4_count, wn_X4, by decide +kernel, by decide⟩
abbrev M_X4_holding : zY := (yX4_holding, cX4_holding, 3, (some .int))
theorem cal_X4_holding : zCal M_X4_holding 0 := ⟨wc_X4_holding, wn_X4, by decide +kernel, by decide⟩
abbrev M_X4_status : zY := (yX4_status, cX4_status, 4, (some .int))
theorem cal_X4_status : zCal M_X4_status 1 := ⟨wc_X4_status, wn_X4, by decide +kernel, by decide⟩
theorem calv_X3_citizen : zCalV M_X3_citizen 1 := ⟨cal_X3_citizen, wi_X3_citizen, wv_X3_citizen⟩
theorem cals_X3_isKind : zCalS M_X3_isKind 1 := ⟨cal_X3_isKind, wt_X3_isKind⟩
theorem calv_X3_finding : zCalV M_X3_finding 1 := ⟨cal_X3_finding, wi_X3_finding, wv_X3_finding⟩
theorem calv_X0_settle : zCalV M_X0_settle 1 := ⟨cal_X0_settle, wi_X0_settle, wv_X0_settle⟩
theorem calv_X3_of : zCalV M_X3_of 2 := ⟨cal_X3_of, wi_X3_of, wv_X3_of⟩
theorem calv_X0_houses : zCalV M_X0_houses 1 := ⟨cal_X0_houses, wi_X0_houses, wv_X0_houses⟩
theorem calv_X0_loafWorth : zCalV M_X0_loafWorth 1 := ⟨cal_X0_loafWorth, wi_X0_loafWorth, wv_X0_loafWorth⟩
theorem calv_X0_seatWorth : zCalV M_X0_seatWorth 1 := ⟨cal_X0_seatWorth, wi_X0_seatWorth, wv_X0_seatWorth⟩
theorem cals_X0_hasTrait : zCalS M_X0_hasTrait 1 := ⟨cal_X0_hasTrait, wt_X0_hasTrait⟩
theorem calv_X0_trait : zCalV M_X0_trait 2 := ⟨cal_X0_trait, wi_X0_trait, wv_X0_trait⟩
theorem calv_X3_change : zCalV M_X3_change 3 := ⟨cal_X3_change, wi_X3_change, wv_X3_change⟩
theorem cals_X0_allowsTrait : zCalS M_X0_allowsTrait 2 := ⟨cal_X0_allowsTrait, wt_X0_allowsTrait⟩
theorem calv_X0_setTrait : zCalV M_X0_setTrait 3 := ⟨cal_X0_setTrait, wi_X0_setTrait, wv_X0_setTrait⟩
theorem calv_X3_rule : zCalV M_X3_rule 2 := ⟨cal_X3_rule, wi_X3_rule, wv_X3_rule⟩
theorem cals_X0_allowsRule : zCalS M_X0_allowsRule 2 := ⟨cal_X0_allowsRule, wt_X0_allowsRule⟩
theorem calv_X0_ruling : zCalV M_X0_ruling 1 := ⟨cal_X0_ruling, wi_X0_ruling, wv_X0_ruling⟩
theorem calv_X0_setRuling : zCalV M_X0_setRuling 2 := ⟨cal_X0_setRuling, wi_X0_setRuling, wv_X0_setRuling⟩
theorem calv_X3_now : zCalV M_X3_now 1 := ⟨cal_X3_now, wi_X3_now, wv_X3_now⟩
theorem calv_X0_holders : zCalV M_X0_holders 1 := ⟨cal_X0_holders, wi_X0_holders, wv_X0_holders⟩
theorem calv_X0_starving : zCalV M_X0_starving 0 := ⟨cal_X0_starving, wi_X0_starving, wv_X0_starving⟩
theorem calv_X3_wants : zCalV M_X3_wants 1 := ⟨cal_X3_wants, wi_X3_wants, wv_X3_wants⟩
theorem calv_X0_wantsOther : zCalV M_X0_wantsOther 1 := ⟨cal_X0_wantsOther, wi_X0_wantsOther, wv_X0_wantsOther⟩
theorem calv_X3_swap : zCalV M_X3_swap 2 := ⟨cal_X3_swap, wi_X3_swap, wv_X3_swap⟩
theorem calv_X0_exchange : zCalV M_X0_exchange 2 := ⟨cal_X0_exchange, wi_X0_exchange, wv_X0_exchange⟩
theorem calv_X3_gates : zCalV M_X3_gates 0 := ⟨cal_X3_gates, wi_X3_gates, wv_X3_gates⟩
theorem calv_X0_openGates : zCalV M_X0_openGates 0 := ⟨cal_X0_openGates, wi_X0_openGates, wv_X0_openGates⟩
theorem calv_X3_changes : zCalV M_X3_changes 0 := ⟨cal_X3_changes, wi_X3_changes, wv_X3_changes⟩
theorem calv_X0_become : zCalV M_X0_become 1 := ⟨cal_X0_become, wi_X0_become, wv_X0_become⟩
theorem calv_X3_buy : zCalV M_X3_buy 3 := ⟨cal_X3_buy, wi_X3_buy, wv_X3_buy⟩
theorem calv_X0_wouldTrade : zCalV M_X0_wouldTrade 3 := ⟨cal_X0_wouldTrade, wi_X0_wouldTrade, wv_X0_wouldTrade⟩
theorem calv_X0_tokenWorth : zCalV M_X0_tokenWorth 2 := ⟨cal_X0_tokenWorth, wi_X0_tokenWorth, wv_X0_tokenWorth⟩
theorem calv_X0_trade : zCalV M_X0_trade 3 := ⟨cal_X0_trade, wi_X0_trade, wv_X0_trade⟩
theorem calv_X3_welfare : zCalV M_X3_welfare 0 := ⟨cal_X3_welfare, wi_X3_welfare, wv_X3_welfare⟩
theorem calv_X0_allWorth : zCalV M_X0_allWorth 0 := ⟨cal_X0_allWorth, wi_X0_allWorth, wv_X0_allWorth⟩
theorem calv_X3_most : zCalV M_X3_most 0 := ⟨cal_X3_most, wi_X3_most, wv_X3_most⟩
theorem calv_X0_bestWorth : zCalV M_X0_bestWorth 0 := ⟨cal_X0_bestWorth, wi_X0_bestWorth, wv_X0_bestWorth⟩
theorem cals_J6_bitCount_0f7a4 : zCalS M_J6_bitCount_0f7a4 1 := ⟨cal_J6_bitCount_0f7a4, wt_J6_bitCount_0f7a4⟩
theorem calv_X0_keenestOnLoaf : zCalV M_X0_keenestOnLoaf 1 := ⟨cal_X0_keenestOnLoaf, wi_X0_keenestOnLoaf, wv_X0_keenestOnLoaf⟩
theorem calv_X3_price : zCalV M_X3_price 0 := ⟨cal_X3_price, wi_X3_price, wv_X3_price⟩
theorem calv_X0_preferLoafAt : zCalV M_X0_preferLoafAt 1 := ⟨cal_X0_preferLoafAt, wi_X0_preferLoafAt, wv_X0_preferLoafAt⟩
theorem calv_X3_weeks : zCalV M_X3_weeks 1 := ⟨cal_X3_weeks, wi_X3_weeks, wv_X3_weeks⟩
theorem calv_X3_hindrance : zCalV M_X3_hindrance 1 := ⟨cal_X3_hindrance, wi_X3_hindrance, wv_X3_hindrance⟩
theorem calv_X0_passWeeks : zCalV M_X0_passWeeks 1 := ⟨cal_X0_passWeeks, wi_X0_passWeeks, wv_X0_passWeeks⟩
theorem calv_X0_passWeek : zCalV M_X0_passWeek 0 := ⟨cal_X0_passWeek, wi_X0_passWeek, wv_X0_passWeek⟩
theorem calv_X0_drawTokens : zCalV M_X0_drawTokens 0 := ⟨cal_X0_drawTokens, wi_X0_drawTokens, wv_X0_drawTokens⟩
theorem calv_X0_draw : zCalV M_X0_draw 0 := ⟨cal_X0_draw, wi_X0_draw, wv_X0_draw⟩
theorem calv_X0_eatAndSee : zCalV M_X0_eatAndSee 0 := ⟨cal_X0_eatAndSee, wi_X0_eatAndSee, wv_X0_eatAndSee⟩
theorem calv_X0_maybeRiot : zCalV M_X0_maybeRiot 0 := ⟨cal_X0_maybeRiot, wi_X0_maybeRiot, wv_X0_maybeRiot⟩
theorem calv_X3_ahead : zCalV M_X3_ahead 2 := ⟨cal_X3_ahead, wi_X3_ahead, wv_X3_ahead⟩
theorem calv_X0_allOf : zCalV M_X0_allOf 1 := ⟨cal_X0_allOf, wi_X0_allOf, wv_X0_allOf⟩
theorem calv_X3_riot : zCalV M_X3_riot 0 := ⟨cal_X3_riot, wi_X3_riot, wv_X3_riot⟩
theorem calv_X0_calmWeeks : zCalV M_X0_calmWeeks 1 := ⟨cal_X0_calmWeeks, wi_X0_calmWeeks, wv_X0_calmWeeks⟩
theorem calv_X3_next : zCalV M_X3_next 1 := ⟨cal_X3_next, wi_X3_next, wv_X3_next⟩
theorem calv_X3_loaves : zCalV M_X3_loaves 1 := ⟨cal_X3_loaves, wi_X3_loaves, wv_X3_loaves⟩
theorem calv_X3_leastCalmRuling : zCalV M_X3_leastCalmRuling 2 := ⟨cal_X3_leastCalmRuling, wi_X3_leastCalmRuling, wv_X3_leastCalmRuling⟩
theorem calv_X3_cheapest : zCalV M_X3_cheapest 1 := ⟨cal_X3_cheapest, wi_X3_cheapest, wv_X3_cheapest⟩
theorem calv_X3_isCalmWith : zCalV M_X3_isCalmWith 3 := ⟨cal_X3_isCalmWith, wi_X3_isCalmWith, wv_X3_isCalmWith⟩
theorem calv_X3_leader : zCalV M_X3_leader 1 := ⟨cal_X3_leader, wi_X3_leader, wv_X3_leader⟩
theorem calv_X3_colourFor : zCalV M_X3_colourFor 2 := ⟨cal_X3_colourFor, wi_X3_colourFor, wv_X3_colourFor⟩
theorem calv_X3_bestTrait : zCalV M_X3_bestTrait 4 := ⟨cal_X3_bestTrait, wi_X3_bestTrait, wv_X3_bestTrait⟩
theorem calv_X3_kindFor : zCalV M_X3_kindFor 2 := ⟨cal_X3_kindFor, wi_X3_kindFor, wv_X3_kindFor⟩
theorem calv_X3_stale : zCalV M_X3_stale 1 := ⟨cal_X3_stale, wi_X3_stale, wv_X3_stale⟩
theorem calv_X3_bound : zCalV M_X3_bound 1 := ⟨cal_X3_bound, wi_X3_bound, wv_X3_bound⟩
theorem calv_X3_law : zCalV M_X3_law 2 := ⟨cal_X3_law, wi_X3_law, wv_X3_law⟩
theorem calv_X3_ways : zCalV M_X3_ways 0 := ⟨cal_X3_ways, wi_X3_ways, wv_X3_ways⟩
theorem calv_X3_waysThat : zCalV M_X3_waysThat 2 := ⟨cal_X3_waysThat, wi_X3_waysThat, wv_X3_waysThat⟩
theorem calv_X0_drawers : zCalV M_X0_drawers 0 := ⟨cal_X0_drawers, wi_X0_drawers, wv_X0_drawers⟩
theorem calv_X0_canDeal : zCalV M_X0_canDeal 1 := ⟨cal_X0_canDeal, wi_X0_canDeal, wv_X0_canDeal⟩
theorem calv_X0_deal : zCalV M_X0_deal 1 := ⟨cal_X0_deal, wi_X0_deal, wv_X0_deal⟩
theorem calv_X3_isSo : zCalV M_X3_isSo 3 := ⟨cal_X3_isSo, wi_X3_isSo, wv_X3_isSo⟩
theorem cals_X3_isSheet : zCalS M_X3_isSheet 1 := ⟨cal_X3_isSheet, wt_X3_isSheet⟩
theorem calv_X0_fits : zCalV M_X0_fits 1 := ⟨cal_X0_fits, wi_X0_fits, wv_X0_fits⟩
theorem calv_X3_eats : zCalV M_X3_eats 1 := ⟨cal_X3_eats, wi_X3_eats, wv_X3_eats⟩
theorem calv_X3_busy : zCalV M_X3_busy 1 := ⟨cal_X3_busy, wi_X3_busy, wv_X3_busy⟩
theorem calv_X3_famine : zCalV M_X3_famine 1 := ⟨cal_X3_famine, wi_X3_famine, wv_X3_famine⟩
theorem calv_X0_strike : zCalV M_X0_strike 0 := ⟨cal_X0_strike, wi_X0_strike, wv_X0_strike⟩
theorem calv_X3_seed : zCalV M_X3_seed 1 := ⟨cal_X3_seed, wi_X3_seed, wv_X3_seed⟩
theorem calv_X3_feed : zCalV M_X3_feed 2 := ⟨cal_X3_feed, wi_X3_feed, wv_X3_feed⟩
theorem calv_X2_append : zCalV M_X2_append 1 := ⟨cal_X2_append, wi_X2_append, wv_X2_append⟩
theorem calv_X3_wipe : zCalV M_X3_wipe 0 := ⟨cal_X3_wipe, wi_X3_wipe, wv_X3_wipe⟩
theorem calv_X3_text : zCalV M_X3_text 0 := ⟨cal_X3_text, wi_X3_text, wv_X3_text⟩
theorem calv_X2_rewind : zCalV M_X2_rewind 0 := ⟨cal_X2_rewind, wi_X2_rewind, wv_X2_rewind⟩
theorem calv_X2_advance : zCalV M_X2_advance 0 := ⟨cal_X2_advance, wi_X2_advance, wv_X2_advance⟩
theorem cals_X2_isLetter : zCalS M_X2_isLetter 1 := ⟨cal_X2_isLetter, wt_X2_isLetter⟩
theorem calv_X2_readWord : zCalV M_X2_readWord 0 := ⟨cal_X2_readWord, wi_X2_readWord, wv_X2_readWord⟩
theorem cals_X2_isDigit : zCalS M_X2_isDigit 1 := ⟨cal_X2_isDigit, wt_X2_isDigit⟩
theorem calv_X2_readNumber : zCalV M_X2_readNumber 0 := ⟨cal_X2_readNumber, wi_X2_readNumber, wv_X2_readNumber⟩
theorem calv_X3_readItem : zCalV M_X3_readItem 0 := ⟨cal_X3_readItem, wi_X3_readItem, wv_X3_readItem⟩
theorem calv_X2_kindTold : zCalV M_X2_kindTold 0 := ⟨cal_X2_kindTold, wi_X2_kindTold, wv_X2_kindTold⟩
theorem cals_X2_kindWord : zCalS M_X2_kindWord 1 := ⟨cal_X2_kindWord, wt_X2_kindWord⟩
theorem calv_X2_isWord : zCalV M_X2_isWord 1 := ⟨cal_X2_isWord, wi_X2_isWord, wv_X2_isWord⟩
theorem calv_J0_length_8abf5 : zCalV M_J0_length_8abf5 0 := ⟨cal_J0_length_8abf5, wi_J0_length_8abf5, wv_J0_length_8abf5⟩
theorem calv_J0_coder_7d493 : zCalV M_J0_coder_7d493 0 := ⟨cal_J0_coder_7d493, wi_J0_coder_7d493, wv_J0_coder_7d493⟩
theorem calv_J0_charAt_5068e : zCalV M_J0_charAt_5068e 1 := ⟨cal_J0_charAt_5068e, wi_J0_charAt_5068e, wv_J0_charAt_5068e⟩
theorem calv_J0_isLatin1_aae02 : zCalV M_J0_isLatin1_aae02 0 := ⟨cal_J0_isLatin1_aae02, wi_J0_isLatin1_aae02, wv_J0_isLatin1_aae02⟩
theorem cals_J1_charAt_3b067 : zCalS M_J1_charAt_3b067 2 := ⟨cal_J1_charAt_3b067, wt_J1_charAt_3b067⟩
theorem cals_J0_checkIndex_df160 : zCalS M_J0_checkIndex_df160 2 := ⟨cal_J0_checkIndex_df160, wt_J0_checkIndex_df160⟩
theorem cals_J3_checkIndex_8e157 : zCalS M_J3_checkIndex_8e157 3 := ⟨cal_J3_checkIndex_8e157, wt_J3_checkIndex_8e157⟩
theorem cals_J2_charAt_3b067 : zCalS M_J2_charAt_3b067 2 := ⟨cal_J2_charAt_3b067, wt_J2_charAt_3b067⟩
theorem cals_J2_checkIndex_2214a : zCalS M_J2_checkIndex_2214a 2 := ⟨cal_J2_checkIndex_2214a, wt_J2_checkIndex_2214a⟩
theorem cals_J2_length_9d52b : zCalS M_J2_length_9d52b 1 := ⟨cal_J2_length_9d52b, wt_J2_length_9d52b⟩
theorem cals_J2_getChar_3b067 : zCalS M_J2_getChar_3b067 2 := ⟨cal_J2_getChar_3b067, wt_J2_getChar_3b067⟩
theorem calv_X3_readCitizen : zCalV M_X3_readCitizen 1 := ⟨cal_X3_readCitizen, wi_X3_readCitizen, wv_X3_readCitizen⟩
theorem calv_X3_readTrait : zCalV M_X3_readTrait 2 := ⟨cal_X3_readTrait, wi_X3_readTrait, wv_X3_readTrait⟩
theorem calv_X3_readRuling : zCalV M_X3_readRuling 1 := ⟨cal_X3_readRuling, wi_X3_readRuling, wv_X3_readRuling⟩
theorem calv_X3_hold : zCalV M_X3_hold 2 := ⟨cal_X3_hold, wi_X3_hold, wv_X3_hold⟩
theorem cals_X3_isSpot : zCalS M_X3_isSpot 1 := ⟨cal_X3_isSpot, wt_X3_isSpot⟩
theorem calv_X3_as : zCalV M_X3_as 2 := ⟨cal_X3_as, wi_X3_as, wv_X3_as⟩
theorem cals_X3_isUnder : zCalS M_X3_isUnder 2 := ⟨cal_X3_isUnder, wt_X3_isUnder⟩
theorem calv_X3_sheet : zCalV M_X3_sheet 3 := ⟨cal_X3_sheet, wi_X3_sheet, wv_X3_sheet⟩
theorem calv_X1_renew : zCalV M_X1_renew 2 := ⟨cal_X1_renew, wi_X1_renew, wv_X1_renew⟩
theorem calv_X3_write : zCalV M_X3_write 3 := ⟨cal_X3_write, wi_X3_write, wv_X3_write⟩
theorem calv_X3_sheetHindrance : zCalV M_X3_sheetHindrance 1 := ⟨cal_X3_sheetHindrance, wi_X3_sheetHindrance, wv_X3_sheetHindrance⟩
theorem calv_X1_put : zCalV M_X1_put 2 := ⟨cal_X1_put, wi_X1_put, wv_X1_put⟩
theorem calv_X3_copy : zCalV M_X3_copy 5 := ⟨cal_X3_copy, wi_X3_copy, wv_X3_copy⟩
theorem calv_X1_spans : zCalV M_X1_spans 2 := ⟨cal_X1_spans, wi_X1_spans, wv_X1_spans⟩
theorem calv_X3_load : zCalV M_X3_load 1 := ⟨cal_X3_load, wi_X3_load, wv_X3_load⟩
theorem calv_X3_tally : zCalV M_X3_tally 1 := ⟨cal_X3_tally, wi_X3_tally, wv_X3_tally⟩
theorem calv_X3_judge : zCalV M_X3_judge 1 := ⟨cal_X3_judge, wi_X3_judge, wv_X3_judge⟩
theorem calv_X3_image : zCalV M_X3_image 0 := ⟨cal_X3_image, wi_X3_image, wv_X3_image⟩
theorem calv_X3_undo : zCalV M_X3_undo 0 := ⟨cal_X3_undo, wi_X3_undo, wv_X3_undo⟩
theorem calv_X3_tear : zCalV M_X3_tear 0 := ⟨cal_X3_tear, wi_X3_tear, wv_X3_tear⟩
theorem calv_X3_count : zCalV M_X3_count 1 := ⟨cal_X3_count, wi_X3_count, wv_X3_count⟩
theorem calv_X0_heldSpots : zCalV M_X0_heldSpots 0 := ⟨cal_X0_heldSpots, wi_X0_heldSpots, wv_X0_heldSpots⟩
theorem calv_X3_status : zCalV M_X3_status 1 := ⟨cal_X3_status, wi_X3_status, wv_X3_status⟩
theorem calv_X4_citizen : zCalV M_X4_citizen 1 := ⟨cal_X4_citizen, wi_X4_citizen, wv_X4_citizen⟩
theorem cals_X4_isKind : zCalS M_X4_isKind 1 := ⟨cal_X4_isKind, wt_X4_isKind⟩
theorem cals_X4_in : zCalS M_X4_in 3 := ⟨cal_X4_in, wt_X4_in⟩
theorem calv_X4_finds : zCalV M_X4_finds 1 := ⟨cal_X4_finds, wi_X4_finds, wv_X4_finds⟩
theorem calv_X4_comes : zCalV M_X4_comes 5 := ⟨cal_X4_comes, wi_X4_comes, wv_X4_comes⟩
theorem calv_X4_makes : zCalV M_X4_makes 3 := ⟨cal_X4_makes, wi_X4_makes, wv_X4_makes⟩
theorem calv_X4_of : zCalV M_X4_of 2 := ⟨cal_X4_of, wi_X4_of, wv_X4_of⟩
theorem calv_X4_isOne : zCalV M_X4_isOne 1 := ⟨cal_X4_isOne, wi_X4_isOne, wv_X4_isOne⟩
theorem calv_X4_is : zCalV M_X4_is 2 := ⟨cal_X4_is, wi_X4_is, wv_X4_is⟩
theorem calv_X4_loafWorth : zCalV M_X4_loafWorth 1 := ⟨cal_X4_loafWorth, wi_X4_loafWorth, wv_X4_loafWorth⟩
theorem calv_X4_seatWorth : zCalV M_X4_seatWorth 1 := ⟨cal_X4_seatWorth, wi_X4_seatWorth, wv_X4_seatWorth⟩
theorem calv_X4_change : zCalV M_X4_change 3 := ⟨cal_X4_change, wi_X4_change, wv_X4_change⟩
theorem cals_X4_isPart : zCalS M_X4_isPart 2 := ⟨cal_X4_isPart, wt_X4_isPart⟩
theorem cals_X4_isHunger : zCalS M_X4_isHunger 1 := ⟨cal_X4_isHunger, wt_X4_isHunger⟩
theorem calv_X4_becomes : zCalV M_X4_becomes 2 := ⟨cal_X4_becomes, wi_X4_becomes, wv_X4_becomes⟩
theorem calv_X4_rule : zCalV M_X4_rule 2 := ⟨cal_X4_rule, wi_X4_rule, wv_X4_rule⟩
theorem cals_X4_isRule : zCalS M_X4_isRule 2 := ⟨cal_X4_isRule, wt_X4_isRule⟩
theorem calv_X4_now : zCalV M_X4_now 1 := ⟨cal_X4_now, wi_X4_now, wv_X4_now⟩
theorem calv_X4_with : zCalV M_X4_with 1 := ⟨cal_X4_with, wi_X4_with, wv_X4_with⟩
theorem calv_X4_hungry : zCalV M_X4_hungry 0 := ⟨cal_X4_hungry, wi_X4_hungry, wv_X4_hungry⟩
theorem calv_X4_cost : zCalV M_X4_cost 0 := ⟨cal_X4_cost, wi_X4_cost, wv_X4_cost⟩
theorem calv_X4_wants : zCalV M_X4_wants 1 := ⟨cal_X4_wants, wi_X4_wants, wv_X4_wants⟩
theorem calv_X4_wantsOther : zCalV M_X4_wantsOther 1 := ⟨cal_X4_wantsOther, wi_X4_wantsOther, wv_X4_wantsOther⟩
theorem calv_X4_swap : zCalV M_X4_swap 2 := ⟨cal_X4_swap, wi_X4_swap, wv_X4_swap⟩
theorem calv_X4_changeTokens : zCalV M_X4_changeTokens 2 := ⟨cal_X4_changeTokens, wi_X4_changeTokens, wv_X4_changeTokens⟩
theorem calv_X4_gates : zCalV M_X4_gates 0 := ⟨cal_X4_gates, wi_X4_gates, wv_X4_gates⟩
theorem calv_X4_opens : zCalV M_X4_opens 0 := ⟨cal_X4_opens, wi_X4_opens, wv_X4_opens⟩
theorem calv_X4_firstWanting : zCalV M_X4_firstWanting 1 := ⟨cal_X4_firstWanting, wi_X4_firstWanting, wv_X4_firstWanting⟩
theorem calv_X4_changes : zCalV M_X4_changes 0 := ⟨cal_X4_changes, wi_X4_changes, wv_X4_changes⟩
theorem cals_X4_row : zCalS M_X4_row 2 := ⟨cal_X4_row, wt_X4_row⟩
theorem calv_X4_buy : zCalV M_X4_buy 3 := ⟨cal_X4_buy, wi_X4_buy, wv_X4_buy⟩
theorem calv_X4_mayBuy : zCalV M_X4_mayBuy 3 := ⟨cal_X4_mayBuy, wi_X4_mayBuy, wv_X4_mayBuy⟩
theorem calv_X4_worth : zCalV M_X4_worth 2 := ⟨cal_X4_worth, wi_X4_worth, wv_X4_worth⟩
theorem calv_X4_welfare : zCalV M_X4_welfare 0 := ⟨cal_X4_welfare, wi_X4_welfare, wv_X4_welfare⟩
theorem calv_X4_most : zCalV M_X4_most 0 := ⟨cal_X4_most, wi_X4_most, wv_X4_most⟩
theorem cals_X4_many : zCalS M_X4_many 1 := ⟨cal_X4_many, wt_X4_many⟩
theorem calv_X4_price : zCalV M_X4_price 0 := ⟨cal_X4_price, wi_X4_price, wv_X4_price⟩
theorem calv_X4_weeks : zCalV M_X4_weeks 1 := ⟨cal_X4_weeks, wi_X4_weeks, wv_X4_weeks⟩
theorem cals_X4_areWeeks : zCalS M_X4_areWeeks 1 := ⟨cal_X4_areWeeks, wt_X4_areWeeks⟩
theorem calv_X4_isLate : zCalV M_X4_isLate 1 := ⟨cal_X4_isLate, wi_X4_isLate, wv_X4_isLate⟩
theorem calv_X4_goes : zCalV M_X4_goes 1 := ⟨cal_X4_goes, wi_X4_goes, wv_X4_goes⟩
theorem calv_X4_aWeek : zCalV M_X4_aWeek 0 := ⟨cal_X4_aWeek, wi_X4_aWeek, wv_X4_aWeek⟩
theorem calv_X4_drawsTokens : zCalV M_X4_drawsTokens 0 := ⟨cal_X4_drawsTokens, wi_X4_drawsTokens, wv_X4_drawsTokens⟩
theorem calv_X4_draw : zCalV M_X4_draw 0 := ⟨cal_X4_draw, wi_X4_draw, wv_X4_draw⟩
theorem calv_X4_eatAndSee : zCalV M_X4_eatAndSee 0 := ⟨cal_X4_eatAndSee, wi_X4_eatAndSee, wv_X4_eatAndSee⟩
theorem calv_X4_ahead : zCalV M_X4_ahead 2 := ⟨cal_X4_ahead, wi_X4_ahead, wv_X4_ahead⟩
theorem calv_X4_sum : zCalV M_X4_sum 1 := ⟨cal_X4_sum, wi_X4_sum, wv_X4_sum⟩
theorem calv_X4_riot : zCalV M_X4_riot 0 := ⟨cal_X4_riot, wi_X4_riot, wv_X4_riot⟩
theorem calv_X4_orNone : zCalV M_X4_orNone 1 := ⟨cal_X4_orNone, wi_X4_orNone, wv_X4_orNone⟩
theorem calv_X4_next : zCalV M_X4_next 1 := ⟨cal_X4_next, wi_X4_next, wv_X4_next⟩
theorem calv_X4_loaves : zCalV M_X4_loaves 1 := ⟨cal_X4_loaves, wi_X4_loaves, wv_X4_loaves⟩
theorem calv_X4_tries : zCalV M_X4_tries 3 := ⟨cal_X4_tries, wi_X4_tries, wv_X4_tries⟩
theorem calv_X4_cheapest : zCalV M_X4_cheapest 1 := ⟨cal_X4_cheapest, wi_X4_cheapest, wv_X4_cheapest⟩
theorem calv_X4_leader : zCalV M_X4_leader 1 := ⟨cal_X4_leader, wi_X4_leader, wv_X4_leader⟩
theorem calv_X4_colourFor : zCalV M_X4_colourFor 2 := ⟨cal_X4_colourFor, wi_X4_colourFor, wv_X4_colourFor⟩
theorem calv_X4_ofThen : zCalV M_X4_ofThen 5 := ⟨cal_X4_ofThen, wi_X4_ofThen, wv_X4_ofThen⟩
theorem calv_X4_kindFor : zCalV M_X4_kindFor 2 := ⟨cal_X4_kindFor, wi_X4_kindFor, wv_X4_kindFor⟩
theorem calv_X4_stale : zCalV M_X4_stale 1 := ⟨cal_X4_stale, wi_X4_stale, wv_X4_stale⟩
theorem calv_X4_bound : zCalV M_X4_bound 1 := ⟨cal_X4_bound, wi_X4_bound, wv_X4_bound⟩
theorem calv_X4_law : zCalV M_X4_law 2 := ⟨cal_X4_law, wi_X4_law, wv_X4_law⟩
theorem calv_X4_ways : zCalV M_X4_ways 0 := ⟨cal_X4_ways, wi_X4_ways, wv_X4_ways⟩
theorem calv_X4_drawing : zCalV M_X4_drawing 0 := ⟨cal_X4_drawing, wi_X4_drawing, wv_X4_drawing⟩
theorem calv_X4_isWay : zCalV M_X4_isWay 1 := ⟨cal_X4_isWay, wi_X4_isWay, wv_X4_isWay⟩
theorem calv_X4_eats : zCalV M_X4_eats 1 := ⟨cal_X4_eats, wi_X4_eats, wv_X4_eats⟩
theorem calv_X4_lies : zCalV M_X4_lies 1 := ⟨cal_X4_lies, wi_X4_lies, wv_X4_lies⟩
theorem calv_X4_busy : zCalV M_X4_busy 1 := ⟨cal_X4_busy, wi_X4_busy, wv_X4_busy⟩
theorem calv_X4_famine : zCalV M_X4_famine 1 := ⟨cal_X4_famine, wi_X4_famine, wv_X4_famine⟩
theorem calv_X4_seed : zCalV M_X4_seed 1 := ⟨cal_X4_seed, wi_X4_seed, wv_X4_seed⟩
theorem calv_X4_feed : zCalV M_X4_feed 2 := ⟨cal_X4_feed, wi_X4_feed, wv_X4_feed⟩
theorem calv_X4_wipe : zCalV M_X4_wipe 0 := ⟨cal_X4_wipe, wi_X4_wipe, wv_X4_wipe⟩
theorem calv_X4_text : zCalV M_X4_text 0 := ⟨cal_X4_text, wi_X4_text, wv_X4_text⟩
theorem calv_X4_token : zCalV M_X4_token 0 := ⟨cal_X4_token, wi_X4_token, wv_X4_token⟩
theorem calv_X4_isByte : zCalV M_X4_isByte 3 := ⟨cal_X4_isByte, wi_X4_isByte, wv_X4_isByte⟩
theorem calv_X4_item : zCalV M_X4_item 0 := ⟨cal_X4_item, wi_X4_item, wv_X4_item⟩
theorem calv_X4_kindHere : zCalV M_X4_kindHere 0 := ⟨cal_X4_kindHere, wi_X4_kindHere, wv_X4_kindHere⟩
theorem calv_X4_isWord : zCalV M_X4_isWord 1 := ⟨cal_X4_isWord, wi_X4_isWord, wv_X4_isWord⟩
theorem calv_X4_citizenItem : zCalV M_X4_citizenItem 1 := ⟨cal_X4_citizenItem, wi_X4_citizenItem, wv_X4_citizenItem⟩
theorem calv_X4_takes : zCalV M_X4_takes 1 := ⟨cal_X4_takes, wi_X4_takes, wv_X4_takes⟩
theorem calv_X4_number : zCalV M_X4_number 2 := ⟨cal_X4_number, wi_X4_number, wv_X4_number⟩
theorem calv_X4_ruleHere : zCalV M_X4_ruleHere 0 := ⟨cal_X4_ruleHere, wi_X4_ruleHere, wv_X4_ruleHere⟩
theorem calv_X4_ruleItem : zCalV M_X4_ruleItem 1 := ⟨cal_X4_ruleItem, wi_X4_ruleItem, wv_X4_ruleItem⟩
theorem calv_X4_isSign : zCalV M_X4_isSign 1 := ⟨cal_X4_isSign, wi_X4_isSign, wv_X4_isSign⟩
theorem calv_X4_hold : zCalV M_X4_hold 2 := ⟨cal_X4_hold, wi_X4_hold, wv_X4_hold⟩
theorem calv_X4_as : zCalV M_X4_as 2 := ⟨cal_X4_as, wi_X4_as, wv_X4_as⟩
theorem cals_X4_above : zCalS M_X4_above 1 := ⟨cal_X4_above, wt_X4_above⟩
theorem calv_X4_sheet : zCalV M_X4_sheet 3 := ⟨cal_X4_sheet, wi_X4_sheet, wv_X4_sheet⟩
theorem cals_X4_isSheet : zCalS M_X4_isSheet 1 := ⟨cal_X4_isSheet, wt_X4_isSheet⟩
theorem calv_X4_write : zCalV M_X4_write 3 := ⟨cal_X4_write, wi_X4_write, wv_X4_write⟩
theorem calv_X4_copy : zCalV M_X4_copy 5 := ⟨cal_X4_copy, wi_X4_copy, wv_X4_copy⟩
theorem calv_X4_load : zCalV M_X4_load 1 := ⟨cal_X4_load, wi_X4_load, wv_X4_load⟩
theorem calv_X4_tally : zCalV M_X4_tally 1 := ⟨cal_X4_tally, wi_X4_tally, wv_X4_tally⟩
theorem calv_X4_judge : zCalV M_X4_judge 1 := ⟨cal_X4_judge, wi_X4_judge, wv_X4_judge⟩
theorem calv_X4_image : zCalV M_X4_image 0 := ⟨cal_X4_image, wi_X4_image, wv_X4_image⟩
theorem calv_X4_undo : zCalV M_X4_undo 0 := ⟨cal_X4_undo, wi_X4_undo, wv_X4_undo⟩
theorem calv_X4_tear : zCalV M_X4_tear 0 := ⟨cal_X4_tear, wi_X4_tear, wv_X4_tear⟩
theorem calv_X4_count : zCalV M_X4_count 1 := ⟨cal_X4_count, wi_X4_count, wv_X4_count⟩
theorem calv_X4_holding : zCalV M_X4_holding 0 := ⟨cal_X4_holding, wi_X4_holding, wv_X4_holding⟩
theorem calv_X4_status : zCalV M_X4_status 1 := ⟨cal_X4_status, wi_X4_status, wv_X4_status⟩
theorem gf_X0_9 {Wf : zW} {V : zG} {m : MethodId} {nL : Nat} {H0 : Heap} {cc : ByteArray} {lv Rc Rs : Nat} {pc : Nat} {f : Nat → Option Value} {st : List Value} {h : Nat → zE} {n k sl : Nat} (Γ : zC Wf V m nL H0 cc RX0 lv Rc Rs) {q : Nat} {fs : List Value} {v : Value} (hd : decode cc pc = .ok (.getfield 9, 3)) (hq : q < n) (he : h q = zO 0 fs) (hv : fs[0]? = some v) (kk : zX Wf V m nL H0 (pc + 3) f (v :: st) h n k sl) : zX Wf V m nL H0 pc f (.ref q :: st) h n k sl := x_getf Γ (C := RX0) (T := TX0) (N := 16) (j := 0) wu_X0 rfl (by decide) wl_X0_9 hd hq he hv kk
theorem gf_X3_191 {Wf : zW} {V : zG} {m : MethodId} {nL : Nat} {H0 : Heap} {cc : ByteArray} {lv Rc Rs : Nat} {pc : Nat} {f : Nat → Option Value} {st : List Value} {h : Nat → zE} {n k sl : Nat} (Γ : zC Wf V m nL H0 cc RX3 lv Rc Rs) {q : Nat} {fs : List Value} {v : Value} (hd : decode cc pc = .ok (.getfield 191, 3)) (hq : q < n) (he : h q = zO 0 fs) (hv : fs[0]? = some v) (kk : zX Wf V m nL H0 (pc + 3) f (v :: st) h n k sl) : zX Wf V m nL H0 pc f (.ref q :: st) h n k sl := x_getf Γ (C := RX0) (T := TX0) (N := 16) (j := 0) wu_X0 rfl (by decide) wl_X3_191 hd hq he hv kk
theorem gf_X0_15 {Wf : zW} {V : zG} {m : MethodId} {nL : Nat} {H0 : Heap} {cc : ByteArray} {lv Rc Rs : Nat} {pc : Nat} {f : Nat → Option Value} {st : List Value} {h : Nat → zE} {n k sl : Nat} (Γ : zC Wf V m nL H0 cc RX0 lv Rc Rs) {q : Nat} {fs : List Value} {v : Value} (hd : decode cc pc = .ok (.getfield 15, 3)) (hq : q < n) (he : h q = zO 0 fs) (hv : fs[1]? = some v) (kk : zX Wf V m nL H0 (pc + 3) f (v :: st) h n k sl) : zX Wf V m nL H0 pc f (.ref q :: st) h n k sl := x_getf Γ (C := RX0) (T := TX0) (N := 16) (j := 1) wu_X0 rfl (by decide) wl_X0_15 hd hq he hv kk
theorem gf_X3_165 {Wf : zW} {V : zG} {m : MethodId} {nL : Nat} {H0 : Heap} {cc : ByteArray} {lv Rc Rs : Nat} {pc : Nat} {f : Nat → Option Value} {st : List Value} {h : Nat → zE} {n k sl : Nat} (Γ : zC Wf V m nL H0 cc RX3 lv Rc Rs) {q : Nat} {fs : List Value} {v : Value} (hd : decode cc pc = .ok (.getfield 165, 3)) (hq : q < n) (he : h q = zO 0 fs) (hv : fs[1]? = some v) (kk : zX Wf V m nL H0 (pc + 3) f (v :: st) h n k sl) : zX Wf V m nL H0 pc f (.ref q :: st) h n k sl := x_getf Γ (C := RX0) (T := TX0) (N := 16) (j := 1) wu_X0 rfl (by decide) wl_X3_165 hd hq he hv kk
theorem gf_X0_18 {Wf : zW} {V : zG} {m : MethodId} {nL : Nat} {H0 : Heap} {cc : ByteArray} {lv Rc Rs : Nat} {pc : Nat} {f : Nat → Option Value} {st : List Value} {h : Nat → zE} {n k sl : Nat} (Γ : zC Wf V m nL H0 cc RX0 lv Rc Rs) {q : Nat} {fs : List Value} {v : Value} (hd : decode cc pc = .ok (.getfield 18, 3)) (hq : q < n) (he : h q = zO 0 fs) (hv : fs[2]? = some v) (kk : zX Wf V m nL H0 (pc + 3) f (v :: st) h n k sl) : zX Wf V m nL H0 pc f (.ref q :: st) h n k sl := x_getf Γ (C := RX0) (T := TX0) (N := 16) (j := 2) wu_X0 rfl (by decide) wl_X0_18 hd hq he hv kk
theorem gf_X0_21 {Wf : zW} {V : zG} {m : MethodId} {nL : Nat} {H0 : Heap} {cc : ByteArray} {lv Rc Rs : Nat} {pc : Nat} {f : Nat → Option Value} {st : List Value} {h : Nat → zE} {n k sl : Nat} (Γ : zC Wf V m nL H0 cc RX0 lv Rc Rs) {q : Nat} {fs : List Value} {v : Value} (hd : decode cc pc = .ok (.getfield 21, 3)) (hq : q < n) (he : h q = zO 0 fs) (hv : fs[3]? = some v) (kk : zX Wf V m nL H0 (pc + 3) f (v :: st) h n k sl) : zX Wf V m nL H0 pc f (.ref q :: st) h n k sl := x_getf Γ (C := RX0) (T := TX0) (N := 16) (j := 3) wu_X0 rfl (by decide) wl_X0_21 hd hq he hv kk
theorem gf_X3_142 {Wf : zW} {V : zG} {m : MethodId} {nL : Nat} {H0 : Heap} {cc : ByteArray} {lv Rc Rs : Nat} {pc : Nat} {f : Nat → Option Value} {st : List Value} {h : Nat → zE} {n k sl : Nat} (Γ : zC Wf V m nL H0 cc RX3 lv Rc Rs) {q : Nat} {fs : List Value} {v : Value} (hd : decode cc pc = .ok (.getfield 142, 3)) (hq : q < n) (he : h q = zO 0 fs) (hv : fs[3]? = some v) (kk : zX Wf V m nL H0 (pc + 3) f (v :: st) h n k sl) : zX Wf V m nL H0 pc f (.ref q :: st) h n k sl := x_getf Γ (C := RX0) (T := TX0) (N := 16) (j := 3) wu_X0 rfl (by decide) wl_X3_142 hd hq he hv kk
theorem gf_X0_24 {Wf : zW} {V : zG} {m : MethodId} {nL : Nat} {H0 : Heap} {cc : ByteArray} {lv Rc Rs : Nat} {pc : Nat} {f : Nat → Option Value} {st : List Value} {h : Nat → zE} {n k sl : Nat} (Γ : zC Wf V m nL H0 cc RX0 lv Rc Rs) {q : Nat} {fs : List Value} {v : Value} (hd : decode cc pc = .ok (.getfield 24, 3)) (hq : q < n) (he : h q = zO 0 fs) (hv : fs[4]? = some v) (kk : zX Wf V m nL H0 (pc + 3) f (v :: st) h n k sl) : zX Wf V m nL H0 pc f (.ref q :: st) h n k sl := x_getf Γ (C := RX0) (T := TX0) (N := 16) (j := 4) wu_X0 rfl (by decide) wl_X0_24 hd hq he hv kk
theorem gf_X3_63 {Wf : zW} {V : zG} {m : MethodId} {nL : Nat} {H0 : Heap} {cc : ByteArray} {lv Rc Rs : Nat} {pc : Nat} {f : Nat → Option Value} {st : List Value} {h : Nat → zE} {n k sl : Nat} (Γ : zC Wf V m nL H0 cc RX3 lv Rc Rs) {q : Nat} {fs : List Value} {v : Value} (hd : decode cc pc = .ok (.getfield 63, 3)) (hq : q < n) (he : h q = zO 0 fs) (hv : fs[4]? = some v) (kk : zX Wf V m nL H0 (pc + 3) f (v :: st) h n k sl) : zX Wf V m nL H0 pc f (.ref q :: st) h n k sl := x_getf Γ (C := RX0) (T := TX0) (N := 16) (j := 4) wu_X0 rfl (by decide) wl_X3_63 hd hq he hv kk
theorem gf_X0_27 {Wf : zW} {V : zG} {m : MethodId} {nL : Nat} {H0 : Heap} {cc : ByteArray} {lv Rc Rs : Nat} {pc : Nat} {f : Nat → Option Value} {st : List Value} {h : Nat → zE} {n k sl : Nat} (Γ : zC Wf V m nL H0 cc RX0 lv Rc Rs) {q : Nat} {fs : List Value} {v : Value} (hd : decode cc pc = .ok (.getfield 27, 3)) (hq : q < n) (he : h q = zO 0 fs) (hv : fs[5]? = some v) (kk : zX Wf V m nL H0 (pc + 3) f (v :: st) h n k sl) : zX Wf V m nL H0 pc f (.ref q :: st) h n k sl := x_getf Γ (C := RX0) (T := TX0) (N := 16) (j := 5) wu_X0 rfl (by decide) wl_X0_27 hd hq he hv kk
theorem gf_X3_119 {Wf : zW} {V : zG} {m : MethodId} {nL : Nat} {H0 : Heap} {cc : ByteArray} {lv Rc Rs : Nat} {pc : Nat} {f : Nat → Option Value} {st : List Value} {h : Nat → zE} {n k sl : Nat} (Γ : zC Wf V m nL H0 cc RX3 lv Rc Rs) {q : Nat} {fs : List Value} {v : Value} (hd : decode cc pc = .ok (.getfield 119, 3)) (hq : q < n) (he : h q = zO 0 fs) (hv : fs[5]? = some v) (kk : zX Wf V m nL H0 (pc + 3) f (v :: st) h n k sl) : zX Wf V m nL H0 pc f (.ref q :: st) h n k sl := x_getf Γ (C := RX0) (T := TX0) (N := 16) (j := 5) wu_X0 rfl (by decide) wl_X3_119 hd hq he hv kk
theorem gf_X0_30 {Wf : zW} {V : zG} {m : MethodId} {nL : Nat} {H0 : Heap} {cc : ByteArray} {lv Rc Rs : Nat} {pc : Nat} {f : Nat → Option Value} {st : List Value} {h : Nat → zE} {n k sl : Nat} (Γ : zC Wf V m nL H0 cc RX0 lv Rc Rs) {q : Nat} {fs : List Value} {v : Value} (hd : decode cc pc = .ok (.getfield 30, 3)) (hq : q < n) (he : h q = zO 0 fs) (hv : fs[6]? = some v) (kk : zX Wf V m nL H0 (pc + 3) f (v :: st) h n k sl) : zX Wf V m nL H0 pc f (.ref q :: st) h n k sl := x_getf Γ (C := RX0) (T := TX0) (N := 16) (j := 6) wu_X0 rfl (by decide) wl_X0_30 hd hq he hv kk
theorem gf_X3_229 {Wf : zW} {V : zG} {m : MethodId} {nL : Nat} {H0 : Heap} {cc : ByteArray} {lv Rc Rs : Nat} {pc : Nat} {f : Nat → Option Value} {st : List Value} {h : Nat → zE} {n k sl : Nat} (Γ : zC Wf V m nL H0 cc RX3 lv Rc Rs) {q : Nat} {fs : List Value} {v : Value} (hd : decode cc pc = .ok (.getfield 229, 3)) (hq : q < n) (he : h q = zO 0 fs) (hv : fs[6]? = some v) (kk : zX Wf V m nL H0 (pc + 3) f (v :: st) h n k sl) : zX Wf V m nL H0 pc f (.ref q :: st) h n k sl := x_getf Γ (C := RX0) (T := TX0) (N := 16) (j := 6) wu_X0 rfl (by decide) wl_X3_229 hd hq he hv kk
theorem gf_X0_33 {Wf : zW} {V : zG} {m : MethodId} {nL : Nat} {H0 : Heap} {cc : ByteArray} {lv Rc Rs : Nat} {pc : Nat} {f : Nat → Option Value} {st : List Value} {h : Nat → zE} {n k sl : Nat} (Γ : zC Wf V m nL H0 cc RX0 lv Rc Rs) {q : Nat} {fs : List Value} {v : Value} (hd : decode cc pc = .ok (.getfield 33, 3)) (hq : q < n) (he : h q = zO 0 fs) (hv : fs[7]? = some v) (kk : zX Wf V m nL H0 (pc + 3) f (v :: st) h n k sl) : zX Wf V m nL H0 pc f (.ref q :: st) h n k sl := x_getf Γ (C := RX0) (T := TX0) (N := 16) (j := 7) wu_X0 rfl (by decide) wl_X0_33 hd hq he hv kk
theorem pf_X0_33 {Wf : zW} {V : zG} {m : MethodId} {nL : Nat} {H0 : Heap} {cc : ByteArray} {lv Rc Rs : Nat} {pc : Nat} {f : Nat → Option Value} {st : List Value} {h : Nat → zE} {n k sl : Nat} (Γ : zC Wf V m nL H0 cc RX0 lv Rc Rs) {q : Nat} {fs : List Value} {x : Int32} {h' : Nat → zE} (hd : decode cc pc = .ok (.putfield 33, 3)) (hq : q < n) (he : h q = zO 0 fs) (hlen : 7 < fs.length) (hh : zup h q (zO 0 (fs.set 7 (.int x))) = h') (kk : zX Wf V m nL H0 (pc + 3) f st h' n k sl) : zX Wf V m nL H0 pc f (.int x :: .ref q :: st) h n k sl := x_putf Γ (C := RX0) (T := TX0) (N := 16) (j := 7) (ty := .int) wu_X0 tyX0 tyX0_ok nmX0 rfl (by decide) wl_X0_33 rfl (by decide +kernel) hd hq he hlen (fun _ => rfl) (fun _ => rfl) hh kk
theorem gf_X3_52 {Wf : zW} {V : zG} {m : MethodId} {nL : Nat} {H0 : Heap} {cc : ByteArray} {lv Rc Rs : Nat} {pc : Nat} {f : Nat → Option Value} {st : List Value} {h : Nat → zE} {n k sl : Nat} (Γ : zC Wf V m nL H0 cc RX3 lv Rc Rs) {q : Nat} {fs : List Value} {v : Value} (hd : decode cc pc = .ok (.getfield 52, 3)) (hq : q < n) (he : h q = zO 0 fs) (hv : fs[7]? = some v) (kk : zX Wf V m nL H0 (pc + 3) f (v :: st) h n k sl) : zX Wf V m nL H0 pc f (.ref q :: st) h n k sl := x_getf Γ (C := RX0) (T := TX0) (N := 16) (j := 7) wu_X0 rfl (by decide) wl_X3_52 hd hq he hv kk
theorem pf_X3_52 {Wf : zW} {V : zG} {m : MethodId} {nL : Nat} {H0 : Heap} {cc : ByteArray} {lv Rc Rs : Nat} {pc : Nat} {f : Nat → Option Value} {st : List Value} {h : Nat → zE} {n k sl : Nat} (Γ : zC Wf V m nL H0 cc RX3 lv Rc Rs) {q : Nat} {fs : List Value} {x : Int32} {h' : Nat → zE} (hd : decode cc pc = .ok (.putfield 52, 3)) (hq : q < n) (he : h q = zO 0 fs) (hlen : 7 < fs.length) (hh : zup h q (zO 0 (fs.set 7 (.int x))) = h') (kk : zX Wf V m nL H0 (pc + 3) f st h' n k sl) : zX Wf V m nL H0 pc f (.int x :: .ref q :: st) h n k sl := x_putf Γ (C := RX0) (T := TX0) (N := 16) (j := 7) (ty := .int) wu_X0 tyX0 tyX0_ok nmX0 rfl (by decide) wl_X3_52 rfl (by decide +kernel) hd hq he hlen (fun _ => rfl) (fun _ => rfl) hh kk
theorem gf_X0_37 {Wf : zW} {V : zG} {m : MethodId} {nL : Nat} {H0 : Heap} {cc : ByteArray} {lv Rc Rs : Nat} {pc : Nat} {f : Nat → Option Value} {st : List Value} {h : Nat → zE} {n k sl : Nat} (Γ : zC Wf V m nL H0 cc RX0 lv Rc Rs) {q : Nat} {fs : List Value} {v : Value} (hd : decode cc pc = .ok (.getfield 37, 3)) (hq : q < n) (he : h q = zO 0 fs) (hv : fs[8]? = some v) (kk : zX Wf V m nL H0 (pc + 3) f (v :: st) h n k sl) : zX Wf V m nL H0 pc f (.ref q :: st) h n k sl := x_getf Γ (C := RX0) (T := TX0) (N := 16) (j := 8) wu_X0 rfl (by decide) wl_X0_37 hd hq he hv kk
theorem pf_X0_37 {Wf : zW} {V : zG} {m : MethodId} {nL : Nat} {H0 : Heap} {cc : ByteArray} {lv Rc Rs : Nat} {pc : Nat} {f : Nat → Option Value} {st : List Value} {h : Nat → zE} {n k sl : Nat} (Γ : zC Wf V m nL H0 cc RX0 lv Rc Rs) {q : Nat} {fs : List Value} {x : Int32} {h' : Nat → zE} (hd : decode cc pc = .ok (.putfield 37, 3)) (hq : q < n) (he : h q = zO 0 fs) (hlen : 8 < fs.length) (hh : zup h q (zO 0 (fs.set 8 (.int x))) = h') (kk : zX Wf V m nL H0 (pc + 3) f st h' n k sl) : zX Wf V m nL H0 pc f (.int x :: .ref q :: st) h n k sl := x_putf Γ (C := RX0) (T := TX0) (N := 16) (j := 8) (ty := .int) wu_X0 tyX0 tyX0_ok nmX0 rfl (by decide) wl_X0_37 rfl (by decide +kernel) hd hq he hlen (fun _ => rfl) (fun _ => rfl) hh kk
theorem gf_X3_103 {Wf : zW} {V : zG} {m : MethodId} {nL : Nat} {H0 : Heap} {cc : ByteArray} {lv Rc Rs : Nat} {pc : Nat} {f : Nat → Option Value} {st : List Value} {h : Nat → zE} {n k sl : Nat} (Γ : zC Wf V m nL H0 cc RX3 lv Rc Rs) {q : Nat} {fs : List Value} {v : Value} (hd : decode cc pc = .ok (.getfield 103, 3)) (hq : q < n) (he : h q = zO 0 fs) (hv : fs[8]? = some v) (kk : zX Wf V m nL H0 (pc + 3) f (v :: st) h n k sl) : zX Wf V m nL H0 pc f (.ref q :: st) h n k sl := x_getf Γ (C := RX0) (T := TX0) (N := 16) (j := 8) wu_X0 rfl (by decide) wl_X3_103 hd hq he hv kk
theorem pf_X3_103 {Wf : zW} {V : zG} {m : MethodId} {nL : Nat} {H0 : Heap} {cc : ByteArray} {lv Rc Rs : Nat} {pc : Nat} {f : Nat → Option Value} {st : List Value} {h : Nat → zE} {n k sl : Nat} (Γ : zC Wf V m nL H0 cc RX3 lv Rc Rs) {q : Nat} {fs : List Value} {x : Int32} {h' : Nat → zE} (hd : decode cc pc = .ok (.putfield 103, 3)) (hq : q < n) (he : h q = zO 0 fs) (hlen : 8 < fs.length) (hh : zup h q (zO 0 (fs.set 8 (.int x))) = h') (kk : zX Wf V m nL H0 (pc + 3) f st h' n k sl) : zX Wf V m nL H0 pc f (.int x :: .ref q :: st) h n k sl := x_putf Γ (C := RX0) (T := TX0) (N := 16) (j := 8) (ty := .int) wu_X0 tyX0 tyX0_ok nmX0 rfl (by decide) wl_X3_103 rfl (by decide +kernel) hd hq he hlen (fun _ => rfl) (fun _ => rfl) hh kk
theorem gf_X0_40 {Wf : zW} {V : zG} {m : MethodId} {nL : Nat} {H0 : Heap} {cc : ByteArray} {lv Rc Rs : Nat} {pc : Nat} {f : Nat → Option Value} {st : List Value} {h : Nat → zE} {n k sl : Nat} (Γ : zC Wf V m nL H0 cc RX0 lv Rc Rs) {q : Nat} {fs : List Value} {v : Value} (hd : decode cc pc = .ok (.getfield 40, 3)) (hq : q < n) (he : h q = zO 0 fs) (hv : fs[9]? = some v) (kk : zX Wf V m nL H0 (pc + 3) f (v :: st) h n k sl) : zX Wf V m nL H0 pc f (.ref q :: st) h n k sl := x_getf Γ (C := RX0) (T := TX0) (N := 16) (j := 9) wu_X0 rfl (by decide) wl_X0_40 hd hq he hv kk
theorem pf_X0_40 {Wf : zW} {V : zG} {m : MethodId} {nL : Nat} {H0 : Heap} {cc : ByteArray} {lv Rc Rs : Nat} {pc : Nat} {f : Nat → Option Value} {st : List Value} {h : Nat → zE} {n k sl : Nat} (Γ : zC Wf V m nL H0 cc RX0 lv Rc Rs) {q : Nat} {fs : List Value} {x : Int32} {h' : Nat → zE} (hd : decode cc pc = .ok (.putfield 40, 3)) (hq : q < n) (he : h q = zO 0 fs) (hlen : 9 < fs.length) (hh : zup h q (zO 0 (fs.set 9 (.int x))) = h') (kk : zX Wf V m nL H0 (pc + 3) f st h' n k sl) : zX Wf V m nL H0 pc f (.int x :: .ref q :: st) h n k sl := x_putf Γ (C := RX0) (T := TX0) (N := 16) (j := 9) (ty := .int) wu_X0 tyX0 tyX0_ok nmX0 rfl (by decide) wl_X0_40 rfl (by decide +kernel) hd hq he hlen (fun _ => rfl) (fun _ => rfl) hh kk
theorem gf_X3_113 {Wf : zW} {V : zG} {m : MethodId} {nL : Nat} {H0 : Heap} {cc : ByteArray} {lv Rc Rs : Nat} {pc : Nat} {f : Nat → Option Value} {st : List Value} {h : Nat → zE} {n k sl : Nat} (Γ : zC Wf V m nL H0 cc RX3 lv Rc Rs) {q : Nat} {fs : List Value} {v : Value} (hd : decode cc pc = .ok (.getfield 113, 3)) (hq : q < n) (he : h q = zO 0 fs) (hv : fs[9]? = some v) (kk : zX Wf V m nL H0 (pc + 3) f (v :: st) h n k sl) : zX Wf V m nL H0 pc f (.ref q :: st) h n k sl := x_getf Γ (C := RX0) (T := TX0) (N := 16) (j := 9) wu_X0 rfl (by decide) wl_X3_113 hd hq he hv kk
theorem pf_X3_113 {Wf : zW} {V : zG} {m : MethodId} {nL : Nat} {H0 : Heap} {cc : ByteArray} {lv Rc Rs : Nat} {pc : Nat} {f : Nat → Option Value} {st : List Value} {h : Nat → zE} {n k sl : Nat} (Γ : zC Wf V m nL H0 cc RX3 lv Rc Rs) {q : Nat} {fs : List Value} {x : Int32} {h' : Nat → zE} (hd : decode cc pc = .ok (.putfield 113, 3)) (hq : q < n) (he : h q = zO 0 fs) (hlen : 9 < fs.length) (hh : zup h q (zO 0 (fs.set 9 (.int x))) = h') (kk : zX Wf V m nL H0 (pc + 3) f st h' n k sl) : zX Wf V m nL H0 pc f (.int x :: .ref q :: st) h n k sl := x_putf Γ (C := RX0) (T := TX0) (N := 16) (j := 9) (ty := .int) wu_X0 tyX0 tyX0_ok nmX0 rfl (by decide) wl_X3_113 rfl (by decide +kernel) hd hq he hlen (fun _ => rfl) (fun _ => rfl) hh kk
theorem gf_X0_43 {Wf : zW} {V : zG} {m : MethodId} {nL : Nat} {H0 : Heap} {cc : ByteArray} {lv Rc Rs : Nat} {pc : Nat} {f : Nat → Option Value} {st : List Value} {h : Nat → zE} {n k sl : Nat} (Γ : zC Wf V m nL H0 cc RX0 lv Rc Rs) {q : Nat} {fs : List Value} {v : Value} (hd : decode cc pc = .ok (.getfield 43, 3)) (hq : q < n) (he : h q = zO 0 fs) (hv : fs[10]? = some v) (kk : zX Wf V m nL H0 (pc + 3) f (v :: st) h n k sl) : zX Wf V m nL H0 pc f (.ref q :: st) h n k sl := x_getf Γ (C := RX0) (T := TX0) (N := 16) (j := 10) wu_X0 rfl (by decide) wl_X0_43 hd hq he hv kk
theorem pf_X0_43 {Wf : zW} {V : zG} {m : MethodId} {nL : Nat} {H0 : Heap} {cc : ByteArray} {lv Rc Rs : Nat} {pc : Nat} {f : Nat → Option Value} {st : List Value} {h : Nat → zE} {n k sl : Nat} (Γ : zC Wf V m nL H0 cc RX0 lv Rc Rs) {q : Nat} {fs : List Value} {x : Int32} {h' : Nat → zE} (hd : decode cc pc = .ok (.putfield 43, 3)) (hq : q < n) (he : h q = zO 0 fs) (hlen : 10 < fs.length) (hh : zup h q (zO 0 (fs.set 10 (.int x))) = h') (kk : zX Wf V m nL H0 (pc + 3) f st h' n k sl) : zX Wf V m nL H0 pc f (.int x :: .ref q :: st) h n k sl := x_putf Γ (C := RX0) (T := TX0) (N := 16) (j := 10) (ty := .int) wu_X0 tyX0 tyX0_ok nmX0 rfl (by decide) wl_X0_43 rfl (by decide +kernel) hd hq he hlen (fun _ => rfl) (fun _ => rfl) hh kk
theorem gf_X3_116 {Wf : zW} {V : zG} {m : MethodId} {nL : Nat} {H0 : Heap} {cc : ByteArray} {lv Rc Rs : Nat} {pc : Nat} {f : Nat → Option Value} {st : List Value} {h : Nat → zE} {n k sl : Nat} (Γ : zC Wf V m nL H0 cc RX3 lv Rc Rs) {q : Nat} {fs : List Value} {v : Value} (hd : decode cc pc = .ok (.getfield 116, 3)) (hq : q < n) (he : h q = zO 0 fs) (hv : fs[10]? = some v) (kk : zX Wf V m nL H0 (pc + 3) f (v :: st) h n k sl) : zX Wf V m nL H0 pc f (.ref q :: st) h n k sl := x_getf Γ (C := RX0) (T := TX0) (N := 16) (j := 10) wu_X0 rfl (by decide) wl_X3_116 hd hq he hv kk
theorem pf_X3_116 {Wf : zW} {V : zG} {m : MethodId} {nL : Nat} {H0 : Heap} {cc : ByteArray} {lv Rc Rs : Nat} {pc : Nat} {f : Nat → Option Value} {st : List Value} {h : Nat → zE} {n k sl : Nat} (Γ : zC Wf V m nL H0 cc RX3 lv Rc Rs) {q : Nat} {fs : List Value} {x : Int32} {h' : Nat → zE} (hd : decode cc pc = .ok (.putfield 116, 3)) (hq : q < n) (he : h q = zO 0 fs) (hlen : 10 < fs.length) (hh : zup h q (zO 0 (fs.set 10 (.int x))) = h') (kk : zX Wf V m nL H0 (pc + 3) f st h' n k sl) : zX Wf V m nL H0 pc f (.int x :: .ref q :: st) h n k sl := x_putf Γ (C := RX0) (T := TX0) (N := 16) (j := 10) (ty := .int) wu_X0 tyX0 tyX0_ok nmX0 rfl (by decide) wl_X3_116 rfl (by decide +kernel) hd hq he hlen (fun _ => rfl) (fun _ => rfl) hh kk
theorem gf_X0_46 {Wf : zW} {V : zG} {m : MethodId} {nL : Nat} {H0 : Heap} {cc : ByteArray} {lv Rc Rs : Nat} {pc : Nat} {f : Nat → Option Value} {st : List Value} {h : Nat → zE} {n k sl : Nat} (Γ : zC Wf V m nL H0 cc RX0 lv Rc Rs) {q : Nat} {fs : List Value} {v : Value} (hd : decode cc pc = .ok (.getfield 46, 3)) (hq : q < n) (he : h q = zO 0 fs) (hv : fs[11]? = some v) (kk : zX Wf V m nL H0 (pc + 3) f (v :: st) h n k sl) : zX Wf V m nL H0 pc f (.ref q :: st) h n k sl := x_getf Γ (C := RX0) (T := TX0) (N := 16) (j := 11) wu_X0 rfl (by decide) wl_X0_46 hd hq he hv kk
theorem pf_X0_46 {Wf : zW} {V : zG} {m : MethodId} {nL : Nat} {H0 : Heap} {cc : ByteArray} {lv Rc Rs : Nat} {pc : Nat} {f : Nat → Option Value} {st : List Value} {h : Nat → zE} {n k sl : Nat} (Γ : zC Wf V m nL H0 cc RX0 lv Rc Rs) {q : Nat} {fs : List Value} {x : Int32} {h' : Nat → zE} (hd : decode cc pc = .ok (.putfield 46, 3)) (hq : q < n) (he : h q = zO 0 fs) (hlen : 11 < fs.length) (hh : zup h q (zO 0 (fs.set 11 (.int x))) = h') (kk : zX Wf V m nL H0 (pc + 3) f st h' n k sl) : zX Wf V m nL H0 pc f (.int x :: .ref q :: st) h n k sl := x_putf Γ (C := RX0) (T := TX0) (N := 16) (j := 11) (ty := .int) wu_X0 tyX0 tyX0_ok nmX0 rfl (by decide) wl_X0_46 rfl (by decide +kernel) hd hq he hlen (fun _ => rfl) (fun _ => rfl) hh kk
theorem gf_X0_49 {Wf : zW} {V : zG} {m : MethodId} {nL : Nat} {H0 : Heap} {cc : ByteArray} {lv Rc Rs : Nat} {pc : Nat} {f : Nat → Option Value} {st : List Value} {h : Nat → zE} {n k sl : Nat} (Γ : zC Wf V m nL H0 cc RX0 lv Rc Rs) {q : Nat} {fs : List Value} {v : Value} (hd : decode cc pc = .ok (.getfield 49, 3)) (hq : q < n) (he : h q = zO 0 fs) (hv : fs[12]? = some v) (kk : zX Wf V m nL H0 (pc + 3) f (v :: st) h n k sl) : zX Wf V m nL H0 pc f (.ref q :: st) h n k sl := x_getf Γ (C := RX0) (T := TX0) (N := 16) (j := 12) wu_X0 rfl (by decide) wl_X0_49 hd hq he hv kk
theorem pf_X0_49 {Wf : zW} {V : zG} {m : MethodId} {nL : Nat} {H0 : Heap} {cc : ByteArray} {lv Rc Rs : Nat} {pc : Nat} {f : Nat → Option Value} {st : List Value} {h : Nat → zE} {n k sl : Nat} (Γ : zC Wf V m nL H0 cc RX0 lv Rc Rs) {q : Nat} {fs : List Value} {x : Int32} {h' : Nat → zE} (hd : decode cc pc = .ok (.putfield 49, 3)) (hq : q < n) (he : h q = zO 0 fs) (hlen : 12 < fs.length) (hh : zup h q (zO 0 (fs.set 12 (.int x))) = h') (kk : zX Wf V m nL H0 (pc + 3) f st h' n k sl) : zX Wf V m nL H0 pc f (.int x :: .ref q :: st) h n k sl := x_putf Γ (C := RX0) (T := TX0) (N := 16) (j := 12) (ty := .int) wu_X0 tyX0 tyX0_ok nmX0 rfl (by decide) wl_X0_49 rfl (by decide +kernel) hd hq he hlen (fun _ => rfl) (fun _ => rfl) hh kk
theorem gf_X3_188 {Wf : zW} {V : zG} {m : MethodId} {nL : Nat} {H0 : Heap} {cc : ByteArray} {lv Rc Rs : Nat} {pc : Nat} {f : Nat → Option Value} {st : List Value} {h : Nat → zE} {n k sl : Nat} (Γ : zC Wf V m nL H0 cc RX3 lv Rc Rs) {q : Nat} {fs : List Value} {v : Value} (hd : decode cc pc = .ok (.getfield 188, 3)) (hq : q < n) (he : h q = zO 0 fs) (hv : fs[12]? = some v) (kk : zX Wf V m nL H0 (pc + 3) f (v :: st) h n k sl) : zX Wf V m nL H0 pc f (.ref q :: st) h n k sl := x_getf Γ (C := RX0) (T := TX0) (N := 16) (j := 12) wu_X0 rfl (by decide) wl_X3_188 hd hq he hv kk
theorem pf_X3_188 {Wf : zW} {V : zG} {m : MethodId} {nL : Nat} {H0 : Heap} {cc : ByteArray} {lv Rc Rs : Nat} {pc : Nat} {f : Nat → Option Value} {st : List Value} {h : Nat → zE} {n k sl : Nat} (Γ : zC Wf V m nL H0 cc RX3 lv Rc Rs) {q : Nat} {fs : List Value} {x : Int32} {h' : Nat → zE} (hd : decode cc pc = .ok (.putfield 188, 3)) (hq : q < n) (he : h q = zO 0 fs) (hlen : 12 < fs.length) (hh : zup h q (zO 0 (fs.set 12 (.int x))) = h') (kk : zX Wf V m nL H0 (pc + 3) f st h' n k sl) : zX Wf V m nL H0 pc f (.int x :: .ref q :: st) h n k sl := x_putf Γ (C := RX0) (T := TX0) (N := 16) (j := 12) (ty := .int) wu_X0 tyX0 tyX0_ok nmX0 rfl (by decide) wl_X3_188 rfl (by decide +kernel) hd hq he hlen (fun _ => rfl) (fun _ => rfl) hh kk
theorem gf_X0_52 {Wf : zW} {V : zG} {m : MethodId} {nL : Nat} {H0 : Heap} {cc : ByteArray} {lv Rc Rs : Nat} {pc : Nat} {f : Nat → Option Value} {st : List Value} {h : Nat → zE} {n k sl : Nat} (Γ : zC Wf V m nL H0 cc RX0 lv Rc Rs) {q : Nat} {fs : List Value} {v : Value} (hd : decode cc pc = .ok (.getfield 52, 3)) (hq : q < n) (he : h q = zO 0 fs) (hv : fs[13]? = some v) (kk : zX Wf V m nL H0 (pc + 3) f (v :: st) h n k sl) : zX Wf V m nL H0 pc f (.ref q :: st) h n k sl := x_getf Γ (C := RX0) (T := TX0) (N := 16) (j := 13) wu_X0 rfl (by decide) wl_X0_52 hd hq he hv kk
theorem pf_X0_52 {Wf : zW} {V : zG} {m : MethodId} {nL : Nat} {H0 : Heap} {cc : ByteArray} {lv Rc Rs : Nat} {pc : Nat} {f : Nat → Option Value} {st : List Value} {h : Nat → zE} {n k sl : Nat} (Γ : zC Wf V m nL H0 cc RX0 lv Rc Rs) {q : Nat} {fs : List Value} {x : Int32} {h' : Nat → zE} (hd : decode cc pc = .ok (.putfield 52, 3)) (hq : q < n) (he : h q = zO 0 fs) (hlen : 13 < fs.length) (hh : zup h q (zO 0 (fs.set 13 (.int x))) = h') (kk : zX Wf V m nL H0 (pc + 3) f st h' n k sl) : zX Wf V m nL H0 pc f (.int x :: .ref q :: st) h n k sl := x_putf Γ (C := RX0) (T := TX0) (N := 16) (j := 13) (ty := .int) wu_X0 tyX0 tyX0_ok nmX0 rfl (by decide) wl_X0_52 rfl (by decide +kernel) hd hq he hlen (fun _ => rfl) (fun _ => rfl) hh kk
theorem gf_X3_97 {Wf : zW} {V : zG} {m : MethodId} {nL : Nat} {H0 : Heap} {cc : ByteArray} {lv Rc Rs : Nat} {pc : Nat} {f : Nat → Option Value} {st : List Value} {h : Nat → zE} {n k sl : Nat} (Γ : zC Wf V m nL H0 cc RX3 lv Rc Rs) {q : Nat} {fs : List Value} {v : Value} (hd : decode cc pc = .ok (.getfield 97, 3)) (hq : q < n) (he : h q = zO 0 fs) (hv : fs[13]? = some v) (kk : zX Wf V m nL H0 (pc + 3) f (v :: st) h n k sl) : zX Wf V m nL H0 pc f (.ref q :: st) h n k sl := x_getf Γ (C := RX0) (T := TX0) (N := 16) (j := 13) wu_X0 rfl (by decide) wl_X3_97 hd hq he hv kk
theorem pf_X3_97 {Wf : zW} {V : zG} {m : MethodId} {nL : Nat} {H0 : Heap} {cc : ByteArray} {lv Rc Rs : Nat} {pc : Nat} {f : Nat → Option Value} {st : List Value} {h : Nat → zE} {n k sl : Nat} (Γ : zC Wf V m nL H0 cc RX3 lv Rc Rs) {q : Nat} {fs : List Value} {x : Int32} {h' : Nat → zE} (hd : decode cc pc = .ok (.putfield 97, 3)) (hq : q < n) (he : h q = zO 0 fs) (hlen : 13 < fs.length) (hh : zup h q (zO 0 (fs.set 13 (.int x))) = h') (kk : zX Wf V m nL H0 (pc + 3) f st h' n k sl) : zX Wf V m nL H0 pc f (.int x :: .ref q :: st) h n k sl := x_putf Γ (C := RX0) (T := TX0) (N := 16) (j := 13) (ty := .int) wu_X0 tyX0 tyX0_ok nmX0 rfl (by decide) wl_X3_97 rfl (by decide +kernel) hd hq he hlen (fun _ => rfl) (fun _ => rfl) hh kk
theorem gf_X0_55 {Wf : zW} {V : zG} {m : MethodId} {nL : Nat} {H0 : Heap} {cc : ByteArray} {lv Rc Rs : Nat} {pc : Nat} {f : Nat → Option Value} {st : List Value} {h : Nat → zE} {n k sl : Nat} (Γ : zC Wf V m nL H0 cc RX0 lv Rc Rs) {q : Nat} {fs : List Value} {v : Value} (hd : decode cc pc = .ok (.getfield 55, 3)) (hq : q < n) (he : h q = zO 0 fs) (hv : fs[14]? = some v) (kk : zX Wf V m nL H0 (pc + 3) f (v :: st) h n k sl) : zX Wf V m nL H0 pc f (.ref q :: st) h n k sl := x_getf Γ (C := RX0) (T := TX0) (N := 16) (j := 14) wu_X0 rfl (by decide) wl_X0_55 hd hq he hv kk
theorem pf_X0_55 {Wf : zW} {V : zG} {m : MethodId} {nL : Nat} {H0 : Heap} {cc : ByteArray} {lv Rc Rs : Nat} {pc : Nat} {f : Nat → Option Value} {st : List Value} {h : Nat → zE} {n k sl : Nat} (Γ : zC Wf V m nL H0 cc RX0 lv Rc Rs) {q : Nat} {fs : List Value} {x : Int32} {h' : Nat → zE} (hd : decode cc pc = .ok (.putfield 55, 3)) (hq : q < n) (he : h q = zO 0 fs) (hlen : 14 < fs.length) (hh : zup h q (zO 0 (fs.set 14 (.int x))) = h') (kk : zX Wf V m nL H0 (pc + 3) f st h' n k sl) : zX Wf V m nL H0 pc f (.int x :: .ref q :: st) h n k sl := x_putf Γ (C := RX0) (T := TX0) (N := 16) (j := 14) (ty := .int) wu_X0 tyX0 tyX0_ok nmX0 rfl (by decide) wl_X0_55 rfl (by decide +kernel) hd hq he hlen (fun _ => rfl) (fun _ => rfl) hh kk
theorem gf_X3_100 {Wf : zW} {V : zG} {m : MethodId} {nL : Nat} {H0 : Heap} {cc : ByteArray} {lv Rc Rs : Nat} {pc : Nat} {f : Nat → Option Value} {st : List Value} {h : Nat → zE} {n k sl : Nat} (Γ : zC Wf V m nL H0 cc RX3 lv Rc Rs) {q : Nat} {fs : List Value} {v : Value} (hd : decode cc pc = .ok (.getfield 100, 3)) (hq : q < n) (he : h q = zO 0 fs) (hv : fs[14]? = some v) (kk : zX Wf V m nL H0 (pc + 3) f (v :: st) h n k sl) : zX Wf V m nL H0 pc f (.ref q :: st) h n k sl := x_getf Γ (C := RX0) (T := TX0) (N := 16) (j := 14) wu_X0 rfl (by decide) wl_X3_100 hd hq he hv kk
theorem pf_X3_100 {Wf : zW} {V : zG} {m : MethodId} {nL : Nat} {H0 : Heap} {cc : ByteArray} {lv Rc Rs : Nat} {pc : Nat} {f : Nat → Option Value} {st : List Value} {h : Nat → zE} {n k sl : Nat} (Γ : zC Wf V m nL H0 cc RX3 lv Rc Rs) {q : Nat} {fs : List Value} {x : Int32} {h' : Nat → zE} (hd : decode cc pc = .ok (.putfield 100, 3)) (hq : q < n) (he : h q = zO 0 fs) (hlen : 14 < fs.length) (hh : zup h q (zO 0 (fs.set 14 (.int x))) = h') (kk : zX Wf V m nL H0 (pc + 3) f st h' n k sl) : zX Wf V m nL H0 pc f (.int x :: .ref q :: st) h n k sl := x_putf Γ (C := RX0) (T := TX0) (N := 16) (j := 14) (ty := .int) wu_X0 tyX0 tyX0_ok nmX0 rfl (by decide) wl_X3_100 rfl (by decide +kernel) hd hq he hlen (fun _ => rfl) (fun _ => rfl) hh kk
theorem gf_X0_58 {Wf : zW} {V : zG} {m : MethodId} {nL : Nat} {H0 : Heap} {cc : ByteArray} {lv Rc Rs : Nat} {pc : Nat} {f : Nat → Option Value} {st : List Value} {h : Nat → zE} {n k sl : Nat} (Γ : zC Wf V m nL H0 cc RX0 lv Rc Rs) {q : Nat} {fs : List Value} {v : Value} (hd : decode cc pc = .ok (.getfield 58, 3)) (hq : q < n) (he : h q = zO 0 fs) (hv : fs[15]? = some v) (kk : zX Wf V m nL H0 (pc + 3) f (v :: st) h n k sl) : zX Wf V m nL H0 pc f (.ref q :: st) h n k sl := x_getf Γ (C := RX0) (T := TX0) (N := 16) (j := 15) wu_X0 rfl (by decide) wl_X0_58 hd hq he hv kk
theorem pf_X0_58 {Wf : zW} {V : zG} {m : MethodId} {nL : Nat} {H0 : Heap} {cc : ByteArray} {lv Rc Rs : Nat} {pc : Nat} {f : Nat → Option Value} {st : List Value} {h : Nat → zE} {n k sl : Nat} (Γ : zC Wf V m nL H0 cc RX0 lv Rc Rs) {q : Nat} {fs : List Value} {x : Int32} {h' : Nat → zE} (hd : decode cc pc = .ok (.putfield 58, 3)) (hq : q < n) (he : h q = zO 0 fs) (hlen : 15 < fs.length) (hh : zup h q (zO 0 (fs.set 15 (.int x))) = h') (kk : zX Wf V m nL H0 (pc + 3) f st h' n k sl) : zX Wf V m nL H0 pc f (.int x :: .ref q :: st) h n k sl := x_putf Γ (C := RX0) (T := TX0) (N := 16) (j := 15) (ty := .int) wu_X0 tyX0 tyX0_ok nmX0 rfl (by decide) wl_X0_58 rfl (by decide +kernel) hd hq he hlen (fun _ => rfl) (fun _ => rfl) hh kk
theorem gf_X3_201 {Wf : zW} {V : zG} {m : MethodId} {nL : Nat} {H0 : Heap} {cc : ByteArray} {lv Rc Rs : Nat} {pc : Nat} {f : Nat → Option Value} {st : List Value} {h : Nat → zE} {n k sl : Nat} (Γ : zC Wf V m nL H0 cc RX3 lv Rc Rs) {q : Nat} {fs : List Value} {v : Value} (hd : decode cc pc = .ok (.getfield 201, 3)) (hq : q < n) (he : h q = zO 0 fs) (hv : fs[15]? = some v) (kk : zX Wf V m nL H0 (pc + 3) f (v :: st) h n k sl) : zX Wf V m nL H0 pc f (.ref q :: st) h n k sl := x_getf Γ (C := RX0) (T := TX0) (N := 16) (j := 15) wu_X0 rfl (by decide) wl_X3_201 hd hq he hv kk
theorem pf_X3_201 {Wf : zW} {V : zG} {m : MethodId} {nL : Nat} {H0 : Heap} {cc : ByteArray} {lv Rc Rs : Nat} {pc : Nat} {f : Nat → Option Value} {st : List Value} {h : Nat → zE} {n k sl : Nat} (Γ : zC Wf V m nL H0 cc RX3 lv Rc Rs) {q : Nat} {fs : List Value} {x : Int32} {h' : Nat → zE} (hd : decode cc pc = .ok (.putfield 201, 3)) (hq : q < n) (he : h q = zO 0 fs) (hlen : 15 < fs.length) (hh : zup h q (zO 0 (fs.set 15 (.int x))) = h') (kk : zX Wf V m nL H0 (pc + 3) f st h' n k sl) : zX Wf V m nL H0 pc f (.int x :: .ref q :: st) h n k sl := x_putf Γ (C := RX0) (T := TX0) (N := 16) (j := 15) (ty := .int) wu_X0 tyX0 tyX0_ok nmX0 rfl (by decide) wl_X3_201 rfl (by decide +kernel) hd hq he hlen (fun _ => rfl) (fun _ => rfl) hh kk
theorem gf_X2_9 {Wf : zW} {V : zG} {m : MethodId} {nL : Nat} {H0 : Heap} {cc : ByteArray} {lv Rc Rs : Nat} {pc : Nat} {f : Nat → Option Value} {st : List Value} {h : Nat → zE} {n k sl : Nat} (Γ : zC Wf V m nL H0 cc RX2 lv Rc Rs) {q : Nat} {fs : List Value} {v : Value} (hd : decode cc pc = .ok (.getfield 9, 3)) (hq : q < n) (he : h q = zO 2 fs) (hv : fs[0]? = some v) (kk : zX Wf V m nL H0 (pc + 3) f (v :: st) h n k sl) : zX Wf V m nL H0 pc f (.ref q :: st) h n k sl := x_getf Γ (C := RX2) (T := TX2) (N := 6) (j := 0) wu_X2 rfl (by decide) wl_X2_9 hd hq he hv kk
theorem gf_X2_15 {Wf : zW} {V : zG} {m : MethodId} {nL : Nat} {H0 : Heap} {cc : ByteArray} {lv Rc Rs : Nat} {pc : Nat} {f : Nat → Option Value} {st : List Value} {h : Nat → zE} {n k sl : Nat} (Γ : zC Wf V m nL H0 cc RX2 lv Rc Rs) {q : Nat} {fs : List Value} {v : Value} (hd : decode cc pc = .ok (.getfield 15, 3)) (hq : q < n) (he : h q = zO 2 fs) (hv : fs[1]? = some v) (kk : zX Wf V m nL H0 (pc + 3) f (v :: st) h n k sl) : zX Wf V m nL H0 pc f (.ref q :: st) h n k sl := x_getf Γ (C := RX2) (T := TX2) (N := 6) (j := 1) wu_X2 rfl (by decide) wl_X2_15 hd hq he hv kk
theorem pf_X2_15 {Wf : zW} {V : zG} {m : MethodId} {nL : Nat} {H0 : Heap} {cc : ByteArray} {lv Rc Rs : Nat} {pc : Nat} {f : Nat → Option Value} {st : List Value} {h : Nat → zE} {n k sl : Nat} (Γ : zC Wf V m nL H0 cc RX2 lv Rc Rs) {q : Nat} {fs : List Value} {x : Int32} {h' : Nat → zE} (hd : decode cc pc = .ok (.putfield 15, 3)) (hq : q < n) (he : h q = zO 2 fs) (hlen : 1 < fs.length) (hh : zup h q (zO 2 (fs.set 1 (.int x))) = h') (kk : zX Wf V m nL H0 (pc + 3) f st h' n k sl) : zX Wf V m nL H0 pc f (.int x :: .ref q :: st) h n k sl := x_putf Γ (C := RX2) (T := TX2) (N := 6) (j := 1) (ty := .int) wu_X2 tyX2 tyX2_ok nmX2 rfl (by decide) wl_X2_15 rfl (by decide +kernel) hd hq he hlen (fun _ => rfl) (fun _ => rfl) hh kk
theorem gf_X3_204 {Wf : zW} {V : zG} {m : MethodId} {nL : Nat} {H0 : Heap} {cc : ByteArray} {lv Rc Rs : Nat} {pc : Nat} {f : Nat → Option Value} {st : List Value} {h : Nat → zE} {n k sl : Nat} (Γ : zC Wf V m nL H0 cc RX3 lv Rc Rs) {q : Nat} {fs : List Value} {v : Value} (hd : decode cc pc = .ok (.getfield 204, 3)) (hq : q < n) (he : h q = zO 2 fs) (hv : fs[1]? = some v) (kk : zX Wf V m nL H0 (pc + 3) f (v :: st) h n k sl) : zX Wf V m nL H0 pc f (.ref q :: st) h n k sl := x_getf Γ (C := RX2) (T := TX2) (N := 6) (j := 1) wu_X2 rfl (by decide) wl_X3_204 hd hq he hv kk
theorem pf_X3_204 {Wf : zW} {V : zG} {m : MethodId} {nL : Nat} {H0 : Heap} {cc : ByteArray} {lv Rc Rs : Nat} {pc : Nat} {f : Nat → Option Value} {st : List Value} {h : Nat → zE} {n k sl : Nat} (Γ : zC Wf V m nL H0 cc RX3 lv Rc Rs) {q : Nat} {fs : List Value} {x : Int32} {h' : Nat → zE} (hd : decode cc pc = .ok (.putfield 204, 3)) (hq : q < n) (he : h q = zO 2 fs) (hlen : 1 < fs.length) (hh : zup h q (zO 2 (fs.set 1 (.int x))) = h') (kk : zX Wf V m nL H0 (pc + 3) f st h' n k sl) : zX Wf V m nL H0 pc f (.int x :: .ref q :: st) h n k sl := x_putf Γ (C := RX2) (T := TX2) (N := 6) (j := 1) (ty := .int) wu_X2 tyX2 tyX2_ok nmX2 rfl (by decide) wl_X3_204 rfl (by decide +kernel) hd hq he hlen (fun _ => rfl) (fun _ => rfl) hh kk
theorem gf_X2_19 {Wf : zW} {V : zG} {m : MethodId} {nL : Nat} {H0 : Heap} {cc : ByteArray} {lv Rc Rs : Nat} {pc : Nat} {f : Nat → Option Value} {st : List Value} {h : Nat → zE} {n k sl : Nat} (Γ : zC Wf V m nL H0 cc RX2 lv Rc Rs) {q : Nat} {fs : List Value} {v : Value} (hd : decode cc pc = .ok (.getfield 19, 3)) (hq : q < n) (he : h q = zO 2 fs) (hv : fs[2]? = some v) (kk : zX Wf V m nL H0 (pc + 3) f (v :: st) h n k sl) : zX Wf V m nL H0 pc f (.ref q :: st) h n k sl := x_getf Γ (C := RX2) (T := TX2) (N := 6) (j := 2) wu_X2 rfl (by decide) wl_X2_19 hd hq he hv kk
theorem pf_X2_19 {Wf : zW} {V : zG} {m : MethodId} {nL : Nat} {H0 : Heap} {cc : ByteArray} {lv Rc Rs : Nat} {pc : Nat} {f : Nat → Option Value} {st : List Value} {h : Nat → zE} {n k sl : Nat} (Γ : zC Wf V m nL H0 cc RX2 lv Rc Rs) {q : Nat} {fs : List Value} {x : Int32} {h' : Nat → zE} (hd : decode cc pc = .ok (.putfield 19, 3)) (hq : q < n) (he : h q = zO 2 fs) (hlen : 2 < fs.length) (hh : zup h q (zO 2 (fs.set 2 (.int x))) = h') (kk : zX Wf V m nL H0 (pc + 3) f st h' n k sl) : zX Wf V m nL H0 pc f (.int x :: .ref q :: st) h n k sl := x_putf Γ (C := RX2) (T := TX2) (N := 6) (j := 2) (ty := .int) wu_X2 tyX2 tyX2_ok nmX2 rfl (by decide) wl_X2_19 rfl (by decide +kernel) hd hq he hlen (fun _ => rfl) (fun _ => rfl) hh kk
theorem gf_X3_223 {Wf : zW} {V : zG} {m : MethodId} {nL : Nat} {H0 : Heap} {cc : ByteArray} {lv Rc Rs : Nat} {pc : Nat} {f : Nat → Option Value} {st : List Value} {h : Nat → zE} {n k sl : Nat} (Γ : zC Wf V m nL H0 cc RX3 lv Rc Rs) {q : Nat} {fs : List Value} {v : Value} (hd : decode cc pc = .ok (.getfield 223, 3)) (hq : q < n) (he : h q = zO 2 fs) (hv : fs[2]? = some v) (kk : zX Wf V m nL H0 (pc + 3) f (v :: st) h n k sl) : zX Wf V m nL H0 pc f (.ref q :: st) h n k sl := x_getf Γ (C := RX2) (T := TX2) (N := 6) (j := 2) wu_X2 rfl (by decide) wl_X3_223 hd hq he hv kk
theorem pf_X3_223 {Wf : zW} {V : zG} {m : MethodId} {nL : Nat} {H0 : Heap} {cc : ByteArray} {lv Rc Rs : Nat} {pc : Nat} {f : Nat → Option Value} {st : List Value} {h : Nat → zE} {n k sl : Nat} (Γ : zC Wf V m nL H0 cc RX3 lv Rc Rs) {q : Nat} {fs : List Value} {x : Int32} {h' : Nat → zE} (hd : decode cc pc = .ok (.putfield 223, 3)) (hq : q < n) (he : h q = zO 2 fs) (hlen : 2 < fs.length) (hh : zup h q (zO 2 (fs.set 2 (.int x))) = h') (kk : zX Wf V m nL H0 (pc + 3) f st h' n k sl) : zX Wf V m nL H0 pc f (.int x :: .ref q :: st) h n k sl := x_putf Γ (C := RX2) (T := TX2) (N := 6) (j := 2) (ty := .int) wu_X2 tyX2 tyX2_ok nmX2 rfl (by decide) wl_X3_223 rfl (by decide +kernel) hd hq he hlen (fun _ => rfl) (fun _ => rfl) hh kk
theorem gf_X2_22 {Wf : zW} {V : zG} {m : MethodId} {nL : Nat} {H0 : Heap} {cc : ByteArray} {lv Rc Rs : Nat} {pc : Nat} {f : Nat → Option Value} {st : List Value} {h : Nat → zE} {n k sl : Nat} (Γ : zC Wf V m nL H0 cc RX2 lv Rc Rs) {q : Nat} {fs : List Value} {v : Value} (hd : decode cc pc = .ok (.getfield 22, 3)) (hq : q < n) (he : h q = zO 2 fs) (hv : fs[3]? = some v) (kk : zX Wf V m nL H0 (pc + 3) f (v :: st) h n k sl) : zX Wf V m nL H0 pc f (.ref q :: st) h n k sl := x_getf Γ (C := RX2) (T := TX2) (N := 6) (j := 3) wu_X2 rfl (by decide) wl_X2_22 hd hq he hv kk
theorem pf_X2_22 {Wf : zW} {V : zG} {m : MethodId} {nL : Nat} {H0 : Heap} {cc : ByteArray} {lv Rc Rs : Nat} {pc : Nat} {f : Nat → Option Value} {st : List Value} {h : Nat → zE} {n k sl : Nat} (Γ : zC Wf V m nL H0 cc RX2 lv Rc Rs) {q : Nat} {fs : List Value} {x : Int32} {h' : Nat → zE} (hd : decode cc pc = .ok (.putfield 22, 3)) (hq : q < n) (he : h q = zO 2 fs) (hlen : 3 < fs.length) (hh : zup h q (zO 2 (fs.set 3 (.int x))) = h') (kk : zX Wf V m nL H0 (pc + 3) f st h' n k sl) : zX Wf V m nL H0 pc f (.int x :: .ref q :: st) h n k sl := x_putf Γ (C := RX2) (T := TX2) (N := 6) (j := 3) (ty := .int) wu_X2 tyX2 tyX2_ok nmX2 rfl (by decide) wl_X2_22 rfl (by decide +kernel) hd hq he hlen (fun _ => rfl) (fun _ => rfl) hh kk
theorem gf_X2_25 {Wf : zW} {V : zG} {m : MethodId} {nL : Nat} {H0 : Heap} {cc : ByteArray} {lv Rc Rs : Nat} {pc : Nat} {f : Nat → Option Value} {st : List Value} {h : Nat → zE} {n k sl : Nat} (Γ : zC Wf V m nL H0 cc RX2 lv Rc Rs) {q : Nat} {fs : List Value} {v : Value} (hd : decode cc pc = .ok (.getfield 25, 3)) (hq : q < n) (he : h q = zO 2 fs) (hv : fs[4]? = some v) (kk : zX Wf V m nL H0 (pc + 3) f (v :: st) h n k sl) : zX Wf V m nL H0 pc f (.ref q :: st) h n k sl := x_getf Γ (C := RX2) (T := TX2) (N := 6) (j := 4) wu_X2 rfl (by decide) wl_X2_25 hd hq he hv kk
theorem pf_X2_25 {Wf : zW} {V : zG} {m : MethodId} {nL : Nat} {H0 : Heap} {cc : ByteArray} {lv Rc Rs : Nat} {pc : Nat} {f : Nat → Option Value} {st : List Value} {h : Nat → zE} {n k sl : Nat} (Γ : zC Wf V m nL H0 cc RX2 lv Rc Rs) {q : Nat} {fs : List Value} {x : Int32} {h' : Nat → zE} (hd : decode cc pc = .ok (.putfield 25, 3)) (hq : q < n) (he : h q = zO 2 fs) (hlen : 4 < fs.length) (hh : zup h q (zO 2 (fs.set 4 (.int x))) = h') (kk : zX Wf V m nL H0 (pc + 3) f st h' n k sl) : zX Wf V m nL H0 pc f (.int x :: .ref q :: st) h n k sl := x_putf Γ (C := RX2) (T := TX2) (N := 6) (j := 4) (ty := .int) wu_X2 tyX2 tyX2_ok nmX2 rfl (by decide) wl_X2_25 rfl (by decide +kernel) hd hq he hlen (fun _ => rfl) (fun _ => rfl) hh kk
theorem gf_X3_220 {Wf : zW} {V : zG} {m : MethodId} {nL : Nat} {H0 : Heap} {cc : ByteArray} {lv Rc Rs : Nat} {pc : Nat} {f : Nat → Option Value} {st : List Value} {h : Nat → zE} {n k sl : Nat} (Γ : zC Wf V m nL H0 cc RX3 lv Rc Rs) {q : Nat} {fs : List Value} {v : Value} (hd : decode cc pc = .ok (.getfield 220, 3)) (hq : q < n) (he : h q = zO 2 fs) (hv : fs[4]? = some v) (kk : zX Wf V m nL H0 (pc + 3) f (v :: st) h n k sl) : zX Wf V m nL H0 pc f (.ref q :: st) h n k sl := x_getf Γ (C := RX2) (T := TX2) (N := 6) (j := 4) wu_X2 rfl (by decide) wl_X3_220 hd hq he hv kk
theorem pf_X3_220 {Wf : zW} {V : zG} {m : MethodId} {nL : Nat} {H0 : Heap} {cc : ByteArray} {lv Rc Rs : Nat} {pc : Nat} {f : Nat → Option Value} {st : List Value} {h : Nat → zE} {n k sl : Nat} (Γ : zC Wf V m nL H0 cc RX3 lv Rc Rs) {q : Nat} {fs : List Value} {x : Int32} {h' : Nat → zE} (hd : decode cc pc = .ok (.putfield 220, 3)) (hq : q < n) (he : h q = zO 2 fs) (hlen : 4 < fs.length) (hh : zup h q (zO 2 (fs.set 4 (.int x))) = h') (kk : zX Wf V m nL H0 (pc + 3) f st h' n k sl) : zX Wf V m nL H0 pc f (.int x :: .ref q :: st) h n k sl := x_putf Γ (C := RX2) (T := TX2) (N := 6) (j := 4) (ty := .int) wu_X2 tyX2 tyX2_ok nmX2 rfl (by decide) wl_X3_220 rfl (by decide +kernel) hd hq he hlen (fun _ => rfl) (fun _ => rfl) hh kk
theorem gf_X2_28 {Wf : zW} {V : zG} {m : MethodId} {nL : Nat} {H0 : Heap} {cc : ByteArray} {lv Rc Rs : Nat} {pc : Nat} {f : Nat → Option Value} {st : List Value} {h : Nat → zE} {n k sl : Nat} (Γ : zC Wf V m nL H0 cc RX2 lv Rc Rs) {q : Nat} {fs : List Value} {v : Value} (hd : decode cc pc = .ok (.getfield 28, 3)) (hq : q < n) (he : h q = zO 2 fs) (hv : fs[5]? = some v) (kk : zX Wf V m nL H0 (pc + 3) f (v :: st) h n k sl) : zX Wf V m nL H0 pc f (.ref q :: st) h n k sl := x_getf Γ (C := RX2) (T := TX2) (N := 6) (j := 5) wu_X2 rfl (by decide) wl_X2_28 hd hq he hv kk
theorem pf_X2_28 {Wf : zW} {V : zG} {m : MethodId} {nL : Nat} {H0 : Heap} {cc : ByteArray} {lv Rc Rs : Nat} {pc : Nat} {f : Nat → Option Value} {st : List Value} {h : Nat → zE} {n k sl : Nat} (Γ : zC Wf V m nL H0 cc RX2 lv Rc Rs) {q : Nat} {fs : List Value} {x : Int32} {h' : Nat → zE} (hd : decode cc pc = .ok (.putfield 28, 3)) (hq : q < n) (he : h q = zO 2 fs) (hlen : 5 < fs.length) (hh : zup h q (zO 2 (fs.set 5 (.int x))) = h') (kk : zX Wf V m nL H0 (pc + 3) f st h' n k sl) : zX Wf V m nL H0 pc f (.int x :: .ref q :: st) h n k sl := x_putf Γ (C := RX2) (T := TX2) (N := 6) (j := 5) (ty := .int) wu_X2 tyX2 tyX2_ok nmX2 rfl (by decide) wl_X2_28 rfl (by decide +kernel) hd hq he hlen (fun _ => rfl) (fun _ => rfl) hh kk
theorem gf_X3_329 {Wf : zW} {V : zG} {m : MethodId} {nL : Nat} {H0 : Heap} {cc : ByteArray} {lv Rc Rs : Nat} {pc : Nat} {f : Nat → Option Value} {st : List Value} {h : Nat → zE} {n k sl : Nat} (Γ : zC Wf V m nL H0 cc RX3 lv Rc Rs) {q : Nat} {fs : List Value} {v : Value} (hd : decode cc pc = .ok (.getfield 329, 3)) (hq : q < n) (he : h q = zO 2 fs) (hv : fs[5]? = some v) (kk : zX Wf V m nL H0 (pc + 3) f (v :: st) h n k sl) : zX Wf V m nL H0 pc f (.ref q :: st) h n k sl := x_getf Γ (C := RX2) (T := TX2) (N := 6) (j := 5) wu_X2 rfl (by decide) wl_X3_329 hd hq he hv kk
theorem pf_X3_329 {Wf : zW} {V : zG} {m : MethodId} {nL : Nat} {H0 : Heap} {cc : ByteArray} {lv Rc Rs : Nat} {pc : Nat} {f : Nat → Option Value} {st : List Value} {h : Nat → zE} {n k sl : Nat} (Γ : zC Wf V m nL H0 cc RX3 lv Rc Rs) {q : Nat} {fs : List Value} {x : Int32} {h' : Nat → zE} (hd : decode cc pc = .ok (.putfield 329, 3)) (hq : q < n) (he : h q = zO 2 fs) (hlen : 5 < fs.length) (hh : zup h q (zO 2 (fs.set 5 (.int x))) = h') (kk : zX Wf V m nL H0 (pc + 3) f st h' n k sl) : zX Wf V m nL H0 pc f (.int x :: .ref q :: st) h n k sl := x_putf Γ (C := RX2) (T := TX2) (N := 6) (j := 5) (ty := .int) wu_X2 tyX2 tyX2_ok nmX2 rfl (by decide) wl_X3_329 rfl (by decide +kernel) hd hq he hlen (fun _ => rfl) (fun _ => rfl) hh kk
theorem gf_X1_9 {Wf : zW} {V : zG} {m : MethodId} {nL : Nat} {H0 : Heap} {cc : ByteArray} {lv Rc Rs : Nat} {pc : Nat} {f : Nat → Option Value} {st : List Value} {h : Nat → zE} {n k sl : Nat} (Γ : zC Wf V m nL H0 cc RX1 lv Rc Rs) {q : Nat} {fs : List Value} {v : Value} (hd : decode cc pc = .ok (.getfield 9, 3)) (hq : q < n) (he : h q = zO 1 fs) (hv : fs[0]? = some v) (kk : zX Wf V m nL H0 (pc + 3) f (v :: st) h n k sl) : zX Wf V m nL H0 pc f (.ref q :: st) h n k sl := x_getf Γ (C := RX1) (T := TX1) (N := 3) (j := 0) wu_X1 rfl (by decide) wl_X1_9 hd hq he hv kk
theorem gf_X0_142 {Wf : zW} {V : zG} {m : MethodId} {nL : Nat} {H0 : Heap} {cc : ByteArray} {lv Rc Rs : Nat} {pc : Nat} {f : Nat → Option Value} {st : List Value} {h : Nat → zE} {n k sl : Nat} (Γ : zC Wf V m nL H0 cc RX0 lv Rc Rs) {q : Nat} {fs : List Value} {v : Value} (hd : decode cc pc = .ok (.getfield 142, 3)) (hq : q < n) (he : h q = zO 1 fs) (hv : fs[0]? = some v) (kk : zX Wf V m nL H0 (pc + 3) f (v :: st) h n k sl) : zX Wf V m nL H0 pc f (.ref q :: st) h n k sl := x_getf Γ (C := RX1) (T := TX1) (N := 3) (j := 0) wu_X1 rfl (by decide) wl_X0_142 hd hq he hv kk
theorem gf_X3_256 {Wf : zW} {V : zG} {m : MethodId} {nL : Nat} {H0 : Heap} {cc : ByteArray} {lv Rc Rs : Nat} {pc : Nat} {f : Nat → Option Value} {st : List Value} {h : Nat → zE} {n k sl : Nat} (Γ : zC Wf V m nL H0 cc RX3 lv Rc Rs) {q : Nat} {fs : List Value} {v : Value} (hd : decode cc pc = .ok (.getfield 256, 3)) (hq : q < n) (he : h q = zO 1 fs) (hv : fs[0]? = some v) (kk : zX Wf V m nL H0 (pc + 3) f (v :: st) h n k sl) : zX Wf V m nL H0 pc f (.ref q :: st) h n k sl := x_getf Γ (C := RX1) (T := TX1) (N := 3) (j := 0) wu_X1 rfl (by decide) wl_X3_256 hd hq he hv kk
theorem gf_X1_15 {Wf : zW} {V : zG} {m : MethodId} {nL : Nat} {H0 : Heap} {cc : ByteArray} {lv Rc Rs : Nat} {pc : Nat} {f : Nat → Option Value} {st : List Value} {h : Nat → zE} {n k sl : Nat} (Γ : zC Wf V m nL H0 cc RX1 lv Rc Rs) {q : Nat} {fs : List Value} {v : Value} (hd : decode cc pc = .ok (.getfield 15, 3)) (hq : q < n) (he : h q = zO 1 fs) (hv : fs[1]? = some v) (kk : zX Wf V m nL H0 (pc + 3) f (v :: st) h n k sl) : zX Wf V m nL H0 pc f (.ref q :: st) h n k sl := x_getf Γ (C := RX1) (T := TX1) (N := 3) (j := 1) wu_X1 rfl (by decide) wl_X1_15 hd hq he hv kk
theorem pf_X1_15 {Wf : zW} {V : zG} {m : MethodId} {nL : Nat} {H0 : Heap} {cc : ByteArray} {lv Rc Rs : Nat} {pc : Nat} {f : Nat → Option Value} {st : List Value} {h : Nat → zE} {n k sl : Nat} (Γ : zC Wf V m nL H0 cc RX1 lv Rc Rs) {q : Nat} {fs : List Value} {x : Int32} {h' : Nat → zE} (hd : decode cc pc = .ok (.putfield 15, 3)) (hq : q < n) (he : h q = zO 1 fs) (hlen : 1 < fs.length) (hh : zup h q (zO 1 (fs.set 1 (.int x))) = h') (kk : zX Wf V m nL H0 (pc + 3) f st h' n k sl) : zX Wf V m nL H0 pc f (.int x :: .ref q :: st) h n k sl := x_putf Γ (C := RX1) (T := TX1) (N := 3) (j := 1) (ty := .int) wu_X1 tyX1 tyX1_ok nmX1 rfl (by decide) wl_X1_15 rfl (by decide +kernel) hd hq he hlen (fun _ => rfl) (fun _ => rfl) hh kk
theorem gf_X3_250 {Wf : zW} {V : zG} {m : MethodId} {nL : Nat} {H0 : Heap} {cc : ByteArray} {lv Rc Rs : Nat} {pc : Nat} {f : Nat → Option Value} {st : List Value} {h : Nat → zE} {n k sl : Nat} (Γ : zC Wf V m nL H0 cc RX3 lv Rc Rs) {q : Nat} {fs : List Value} {v : Value} (hd : decode cc pc = .ok (.getfield 250, 3)) (hq : q < n) (he : h q = zO 1 fs) (hv : fs[1]? = some v) (kk : zX Wf V m nL H0 (pc + 3) f (v :: st) h n k sl) : zX Wf V m nL H0 pc f (.ref q :: st) h n k sl := x_getf Γ (C := RX1) (T := TX1) (N := 3) (j := 1) wu_X1 rfl (by decide) wl_X3_250 hd hq he hv kk
theorem pf_X3_250 {Wf : zW} {V : zG} {m : MethodId} {nL : Nat} {H0 : Heap} {cc : ByteArray} {lv Rc Rs : Nat} {pc : Nat} {f : Nat → Option Value} {st : List Value} {h : Nat → zE} {n k sl : Nat} (Γ : zC Wf V m nL H0 cc RX3 lv Rc Rs) {q : Nat} {fs : List Value} {x : Int32} {h' : Nat → zE} (hd : decode cc pc = .ok (.putfield 250, 3)) (hq : q < n) (he : h q = zO 1 fs) (hlen : 1 < fs.length) (hh : zup h q (zO 1 (fs.set 1 (.int x))) = h') (kk : zX Wf V m nL H0 (pc + 3) f st h' n k sl) : zX Wf V m nL H0 pc f (.int x :: .ref q :: st) h n k sl := x_putf Γ (C := RX1) (T := TX1) (N := 3) (j := 1) (ty := .int) wu_X1 tyX1 tyX1_ok nmX1 rfl (by decide) wl_X3_250 rfl (by decide +kernel) hd hq he hlen (fun _ => rfl) (fun _ => rfl) hh kk
theorem gf_X1_19 {Wf : zW} {V : zG} {m : MethodId} {nL : Nat} {H0 : Heap} {cc : ByteArray} {lv Rc Rs : Nat} {pc : Nat} {f : Nat → Option Value} {st : List Value} {h : Nat → zE} {n k sl : Nat} (Γ : zC Wf V m nL H0 cc RX1 lv Rc Rs) {q : Nat} {fs : List Value} {v : Value} (hd : decode cc pc = .ok (.getfield 19, 3)) (hq : q < n) (he : h q = zO 1 fs) (hv : fs[2]? = some v) (kk : zX Wf V m nL H0 (pc + 3) f (v :: st) h n k sl) : zX Wf V m nL H0 pc f (.ref q :: st) h n k sl := x_getf Γ (C := RX1) (T := TX1) (N := 3) (j := 2) wu_X1 rfl (by decide) wl_X1_19 hd hq he hv kk
theorem pf_X1_19 {Wf : zW} {V : zG} {m : MethodId} {nL : Nat} {H0 : Heap} {cc : ByteArray} {lv Rc Rs : Nat} {pc : Nat} {f : Nat → Option Value} {st : List Value} {h : Nat → zE} {n k sl : Nat} (Γ : zC Wf V m nL H0 cc RX1 lv Rc Rs) {q : Nat} {fs : List Value} {x : Int32} {h' : Nat → zE} (hd : decode cc pc = .ok (.putfield 19, 3)) (hq : q < n) (he : h q = zO 1 fs) (hlen : 2 < fs.length) (hh : zup h q (zO 1 (fs.set 2 (.int x))) = h') (kk : zX Wf V m nL H0 (pc + 3) f st h' n k sl) : zX Wf V m nL H0 pc f (.int x :: .ref q :: st) h n k sl := x_putf Γ (C := RX1) (T := TX1) (N := 3) (j := 2) (ty := .int) wu_X1 tyX1 tyX1_ok nmX1 rfl (by decide) wl_X1_19 rfl (by decide +kernel) hd hq he hlen (fun _ => rfl) (fun _ => rfl) hh kk
theorem gf_X3_241 {Wf : zW} {V : zG} {m : MethodId} {nL : Nat} {H0 : Heap} {cc : ByteArray} {lv Rc Rs : Nat} {pc : Nat} {f : Nat → Option Value} {st : List Value} {h : Nat → zE} {n k sl : Nat} (Γ : zC Wf V m nL H0 cc RX3 lv Rc Rs) {q : Nat} {fs : List Value} {v : Value} (hd : decode cc pc = .ok (.getfield 241, 3)) (hq : q < n) (he : h q = zO 1 fs) (hv : fs[2]? = some v) (kk : zX Wf V m nL H0 (pc + 3) f (v :: st) h n k sl) : zX Wf V m nL H0 pc f (.ref q :: st) h n k sl := x_getf Γ (C := RX1) (T := TX1) (N := 3) (j := 2) wu_X1 rfl (by decide) wl_X3_241 hd hq he hv kk
theorem pf_X3_241 {Wf : zW} {V : zG} {m : MethodId} {nL : Nat} {H0 : Heap} {cc : ByteArray} {lv Rc Rs : Nat} {pc : Nat} {f : Nat → Option Value} {st : List Value} {h : Nat → zE} {n k sl : Nat} (Γ : zC Wf V m nL H0 cc RX3 lv Rc Rs) {q : Nat} {fs : List Value} {x : Int32} {h' : Nat → zE} (hd : decode cc pc = .ok (.putfield 241, 3)) (hq : q < n) (he : h q = zO 1 fs) (hlen : 2 < fs.length) (hh : zup h q (zO 1 (fs.set 2 (.int x))) = h') (kk : zX Wf V m nL H0 (pc + 3) f st h' n k sl) : zX Wf V m nL H0 pc f (.int x :: .ref q :: st) h n k sl := x_putf Γ (C := RX1) (T := TX1) (N := 3) (j := 2) (ty := .int) wu_X1 tyX1 tyX1_ok nmX1 rfl (by decide) wl_X3_241 rfl (by decide +kernel) hd hq he hlen (fun _ => rfl) (fun _ => rfl) hh kk
theorem gf_X0_137 {Wf : zW} {V : zG} {m : MethodId} {nL : Nat} {H0 : Heap} {cc : ByteArray} {lv Rc Rs : Nat} {pc : Nat} {f : Nat → Option Value} {st : List Value} {h : Nat → zE} {n k sl : Nat} (Γ : zC Wf V m nL H0 cc RX0 lv Rc Rs) {q : Nat} {fs : List Value} {v : Value} (hd : decode cc pc = .ok (.getfield 137, 3)) (hq : q < n) (he : h q = zO 1 fs) (hv : fs[2]? = some v) (kk : zX Wf V m nL H0 (pc + 3) f (v :: st) h n k sl) : zX Wf V m nL H0 pc f (.ref q :: st) h n k sl := x_getf Γ (C := RX1) (T := TX1) (N := 3) (j := 2) wu_X1 rfl (by decide) wl_X0_137 hd hq he hv kk
theorem pf_X0_137 {Wf : zW} {V : zG} {m : MethodId} {nL : Nat} {H0 : Heap} {cc : ByteArray} {lv Rc Rs : Nat} {pc : Nat} {f : Nat → Option Value} {st : List Value} {h : Nat → zE} {n k sl : Nat} (Γ : zC Wf V m nL H0 cc RX0 lv Rc Rs) {q : Nat} {fs : List Value} {x : Int32} {h' : Nat → zE} (hd : decode cc pc = .ok (.putfield 137, 3)) (hq : q < n) (he : h q = zO 1 fs) (hlen : 2 < fs.length) (hh : zup h q (zO 1 (fs.set 2 (.int x))) = h') (kk : zX Wf V m nL H0 (pc + 3) f st h' n k sl) : zX Wf V m nL H0 pc f (.int x :: .ref q :: st) h n k sl := x_putf Γ (C := RX1) (T := TX1) (N := 3) (j := 2) (ty := .int) wu_X1 tyX1 tyX1_ok nmX1 rfl (by decide) wl_X0_137 rfl (by decide +kernel) hd hq he hlen (fun _ => rfl) (fun _ => rfl) hh kk
theorem gf_X3_10 {Wf : zW} {V : zG} {m : MethodId} {nL : Nat} {H0 : Heap} {cc : ByteArray} {lv Rc Rs : Nat} {pc : Nat} {f : Nat → Option Value} {st : List Value} {h : Nat → zE} {n k sl : Nat} (Γ : zC Wf V m nL H0 cc RX3 lv Rc Rs) {q : Nat} {fs : List Value} {v : Value} (hd : decode cc pc = .ok (.getfield 10, 3)) (hq : q < n) (he : h q = zO 3 fs) (hv : fs[0]? = some v) (kk : zX Wf V m nL H0 (pc + 3) f (v :: st) h n k sl) : zX Wf V m nL H0 pc f (.ref q :: st) h n k sl := x_getf Γ (C := RX3) (T := TX3) (N := 7) (j := 0) wu_X3 rfl (by decide) wl_X3_10 hd hq he hv kk
theorem gf_X3_16 {Wf : zW} {V : zG} {m : MethodId} {nL : Nat} {H0 : Heap} {cc : ByteArray} {lv Rc Rs : Nat} {pc : Nat} {f : Nat → Option Value} {st : List Value} {h : Nat → zE} {n k sl : Nat} (Γ : zC Wf V m nL H0 cc RX3 lv Rc Rs) {q : Nat} {fs : List Value} {v : Value} (hd : decode cc pc = .ok (.getfield 16, 3)) (hq : q < n) (he : h q = zO 3 fs) (hv : fs[1]? = some v) (kk : zX Wf V m nL H0 (pc + 3) f (v :: st) h n k sl) : zX Wf V m nL H0 pc f (.ref q :: st) h n k sl := x_getf Γ (C := RX3) (T := TX3) (N := 7) (j := 1) wu_X3 rfl (by decide) wl_X3_16 hd hq he hv kk
theorem gf_X3_19 {Wf : zW} {V : zG} {m : MethodId} {nL : Nat} {H0 : Heap} {cc : ByteArray} {lv Rc Rs : Nat} {pc : Nat} {f : Nat → Option Value} {st : List Value} {h : Nat → zE} {n k sl : Nat} (Γ : zC Wf V m nL H0 cc RX3 lv Rc Rs) {q : Nat} {fs : List Value} {v : Value} (hd : decode cc pc = .ok (.getfield 19, 3)) (hq : q < n) (he : h q = zO 3 fs) (hv : fs[2]? = some v) (kk : zX Wf V m nL H0 (pc + 3) f (v :: st) h n k sl) : zX Wf V m nL H0 pc f (.ref q :: st) h n k sl := x_getf Γ (C := RX3) (T := TX3) (N := 7) (j := 2) wu_X3 rfl (by decide) wl_X3_19 hd hq he hv kk
theorem gf_X3_25 {Wf : zW} {V : zG} {m : MethodId} {nL : Nat} {H0 : Heap} {cc : ByteArray} {lv Rc Rs : Nat} {pc : Nat} {f : Nat → Option Value} {st : List Value} {h : Nat → zE} {n k sl : Nat} (Γ : zC Wf V m nL H0 cc RX3 lv Rc Rs) {q : Nat} {fs : List Value} {v : Value} (hd : decode cc pc = .ok (.getfield 25, 3)) (hq : q < n) (he : h q = zO 3 fs) (hv : fs[3]? = some v) (kk : zX Wf V m nL H0 (pc + 3) f (v :: st) h n k sl) : zX Wf V m nL H0 pc f (.ref q :: st) h n k sl := x_getf Γ (C := RX3) (T := TX3) (N := 7) (j := 3) wu_X3 rfl (by decide) wl_X3_25 hd hq he hv kk
theorem gf_X3_31 {Wf : zW} {V : zG} {m : MethodId} {nL : Nat} {H0 : Heap} {cc : ByteArray} {lv Rc Rs : Nat} {pc : Nat} {f : Nat → Option Value} {st : List Value} {h : Nat → zE} {n k sl : Nat} (Γ : zC Wf V m nL H0 cc RX3 lv Rc Rs) {q : Nat} {fs : List Value} {v : Value} (hd : decode cc pc = .ok (.getfield 31, 3)) (hq : q < n) (he : h q = zO 3 fs) (hv : fs[4]? = some v) (kk : zX Wf V m nL H0 (pc + 3) f (v :: st) h n k sl) : zX Wf V m nL H0 pc f (.ref q :: st) h n k sl := x_getf Γ (C := RX3) (T := TX3) (N := 7) (j := 4) wu_X3 rfl (by decide) wl_X3_31 hd hq he hv kk
theorem gf_X3_36 {Wf : zW} {V : zG} {m : MethodId} {nL : Nat} {H0 : Heap} {cc : ByteArray} {lv Rc Rs : Nat} {pc : Nat} {f : Nat → Option Value} {st : List Value} {h : Nat → zE} {n k sl : Nat} (Γ : zC Wf V m nL H0 cc RX3 lv Rc Rs) {q : Nat} {fs : List Value} {v : Value} (hd : decode cc pc = .ok (.getfield 36, 3)) (hq : q < n) (he : h q = zO 3 fs) (hv : fs[5]? = some v) (kk : zX Wf V m nL H0 (pc + 3) f (v :: st) h n k sl) : zX Wf V m nL H0 pc f (.ref q :: st) h n k sl := x_getf Γ (C := RX3) (T := TX3) (N := 7) (j := 5) wu_X3 rfl (by decide) wl_X3_36 hd hq he hv kk
theorem gf_X3_40 {Wf : zW} {V : zG} {m : MethodId} {nL : Nat} {H0 : Heap} {cc : ByteArray} {lv Rc Rs : Nat} {pc : Nat} {f : Nat → Option Value} {st : List Value} {h : Nat → zE} {n k sl : Nat} (Γ : zC Wf V m nL H0 cc RX3 lv Rc Rs) {q : Nat} {fs : List Value} {v : Value} (hd : decode cc pc = .ok (.getfield 40, 3)) (hq : q < n) (he : h q = zO 3 fs) (hv : fs[6]? = some v) (kk : zX Wf V m nL H0 (pc + 3) f (v :: st) h n k sl) : zX Wf V m nL H0 pc f (.ref q :: st) h n k sl := x_getf Γ (C := RX3) (T := TX3) (N := 7) (j := 6) wu_X3 rfl (by decide) wl_X3_40 hd hq he hv kk
theorem pf_X3_40 {Wf : zW} {V : zG} {m : MethodId} {nL : Nat} {H0 : Heap} {cc : ByteArray} {lv Rc Rs : Nat} {pc : Nat} {f : Nat → Option Value} {st : List Value} {h : Nat → zE} {n k sl : Nat} (Γ : zC Wf V m nL H0 cc RX3 lv Rc Rs) {q : Nat} {fs : List Value} {x : Int32} (hx : x &&& 1 = x) {h' : Nat → zE} (hd : decode cc pc = .ok (.putfield 40, 3)) (hq : q < n) (he : h q = zO 3 fs) (hlen : 6 < fs.length) (hh : zup h q (zO 3 (fs.set 6 (.int x))) = h') (kk : zX Wf V m nL H0 (pc + 3) f st h' n k sl) : zX Wf V m nL H0 pc f (.int x :: .ref q :: st) h n k sl := x_putf Γ (C := RX3) (T := TX3) (N := 7) (j := 6) (ty := .boolean) wu_X3 tyX3 tyX3_ok nmX3 rfl (by decide) wl_X3_40 rfl (by decide +kernel) hd hq he hlen (fun _ => congrArg Value.int hx) (fun _ => zfitZ hx) hh kk
theorem gf_X4_9 {Wf : zW} {V : zG} {m : MethodId} {nL : Nat} {H0 : Heap} {cc : ByteArray} {lv Rc Rs : Nat} {pc : Nat} {f : Nat → Option Value} {st : List Value} {h : Nat → zE} {n k sl : Nat} (Γ : zC Wf V m nL H0 cc RX4 lv Rc Rs) {q : Nat} {fs : List Value} {v : Value} (hd : decode cc pc = .ok (.getfield 9, 3)) (hq : q < n) (he : h q = zO 4 fs) (hv : fs[0]? = some v) (kk : zX Wf V m nL H0 (pc + 3) f (v :: st) h n k sl) : zX Wf V m nL H0 pc f (.ref q :: st) h n k sl := x_getf Γ (C := RX4) (T := TX4) (N := 17) (j := 0) wu_X4 rfl (by decide) wl_X4_9 hd hq he hv kk
theorem gf_X4_13 {Wf : zW} {V : zG} {m : MethodId} {nL : Nat} {H0 : Heap} {cc : ByteArray} {lv Rc Rs : Nat} {pc : Nat} {f : Nat → Option Value} {st : List Value} {h : Nat → zE} {n k sl : Nat} (Γ : zC Wf V m nL H0 cc RX4 lv Rc Rs) {q : Nat} {fs : List Value} {v : Value} (hd : decode cc pc = .ok (.getfield 13, 3)) (hq : q < n) (he : h q = zO 4 fs) (hv : fs[1]? = some v) (kk : zX Wf V m nL H0 (pc + 3) f (v :: st) h n k sl) : zX Wf V m nL H0 pc f (.ref q :: st) h n k sl := x_getf Γ (C := RX4) (T := TX4) (N := 17) (j := 1) wu_X4 rfl (by decide) wl_X4_13 hd hq he hv kk
theorem gf_X4_16 {Wf : zW} {V : zG} {m : MethodId} {nL : Nat} {H0 : Heap} {cc : ByteArray} {lv Rc Rs : Nat} {pc : Nat} {f : Nat → Option Value} {st : List Value} {h : Nat → zE} {n k sl : Nat} (Γ : zC Wf V m nL H0 cc RX4 lv Rc Rs) {q : Nat} {fs : List Value} {v : Value} (hd : decode cc pc = .ok (.getfield 16, 3)) (hq : q < n) (he : h q = zO 4 fs) (hv : fs[2]? = some v) (kk : zX Wf V m nL H0 (pc + 3) f (v :: st) h n k sl) : zX Wf V m nL H0 pc f (.ref q :: st) h n k sl := x_getf Γ (C := RX4) (T := TX4) (N := 17) (j := 2) wu_X4 rfl (by decide) wl_X4_16 hd hq he hv kk
theorem gf_X4_302 {Wf : zW} {V : zG} {m : MethodId} {nL : Nat} {H0 : Heap} {cc : ByteArray} {lv Rc Rs : Nat} {pc : Nat} {f : Nat → Option Value} {st : List Value} {h : Nat → zE} {n k sl : Nat} (Γ : zC Wf V m nL H0 cc RX4 lv Rc Rs) {q : Nat} {fs : List Value} {v : Value} (hd : decode cc pc = .ok (.getfield 302, 3)) (hq : q < n) (he : h q = zO 4 fs) (hv : fs[3]? = some v) (kk : zX Wf V m nL H0 (pc + 3) f (v :: st) h n k sl) : zX Wf V m nL H0 pc f (.ref q :: st) h n k sl := x_getf Γ (C := RX4) (T := TX4) (N := 17) (j := 3) wu_X4 rfl (by decide) wl_X4_302 hd hq he hv kk
theorem pf_X4_302 {Wf : zW} {V : zG} {m : MethodId} {nL : Nat} {H0 : Heap} {cc : ByteArray} {lv Rc Rs : Nat} {pc : Nat} {f : Nat → Option Value} {st : List Value} {h : Nat → zE} {n k sl : Nat} (Γ : zC Wf V m nL H0 cc RX4 lv Rc Rs) {q : Nat} {fs : List Value} {x : Int32} (hx : x &&& 1 = x) {h' : Nat → zE} (hd : decode cc pc = .ok (.putfield 302, 3)) (hq : q < n) (he : h q = zO 4 fs) (hlen : 3 < fs.length) (hh : zup h q (zO 4 (fs.set 3 (.int x))) = h') (kk : zX Wf V m nL H0 (pc + 3) f st h' n k sl) : zX Wf V m nL H0 pc f (.int x :: .ref q :: st) h n k sl := x_putf Γ (C := RX4) (T := TX4) (N := 17) (j := 3) (ty := .boolean) wu_X4 tyX4 tyX4_ok nmX4 rfl (by decide) wl_X4_302 rfl (by decide +kernel) hd hq he hlen (fun _ => congrArg Value.int hx) (fun _ => zfitZ hx) hh kk
theorem gf_X4_19 {Wf : zW} {V : zG} {m : MethodId} {nL : Nat} {H0 : Heap} {cc : ByteArray} {lv Rc Rs : Nat} {pc : Nat} {f : Nat → Option Value} {st : List Value} {h : Nat → zE} {n k sl : Nat} (Γ : zC Wf V m nL H0 cc RX4 lv Rc Rs) {q : Nat} {fs : List Value} {v : Value} (hd : decode cc pc = .ok (.getfield 19, 3)) (hq : q < n) (he : h q = zO 4 fs) (hv : fs[4]? = some v) (kk : zX Wf V m nL H0 (pc + 3) f (v :: st) h n k sl) : zX Wf V m nL H0 pc f (.ref q :: st) h n k sl := x_getf Γ (C := RX4) (T := TX4) (N := 17) (j := 4) wu_X4 rfl (by decide) wl_X4_19 hd hq he hv kk
theorem gf_X4_167 {Wf : zW} {V : zG} {m : MethodId} {nL : Nat} {H0 : Heap} {cc : ByteArray} {lv Rc Rs : Nat} {pc : Nat} {f : Nat → Option Value} {st : List Value} {h : Nat → zE} {n k sl : Nat} (Γ : zC Wf V m nL H0 cc RX4 lv Rc Rs) {q : Nat} {fs : List Value} {v : Value} (hd : decode cc pc = .ok (.getfield 167, 3)) (hq : q < n) (he : h q = zO 4 fs) (hv : fs[5]? = some v) (kk : zX Wf V m nL H0 (pc + 3) f (v :: st) h n k sl) : zX Wf V m nL H0 pc f (.ref q :: st) h n k sl := x_getf Γ (C := RX4) (T := TX4) (N := 17) (j := 5) wu_X4 rfl (by decide) wl_X4_167 hd hq he hv kk
theorem pf_X4_167 {Wf : zW} {V : zG} {m : MethodId} {nL : Nat} {H0 : Heap} {cc : ByteArray} {lv Rc Rs : Nat} {pc : Nat} {f : Nat → Option Value} {st : List Value} {h : Nat → zE} {n k sl : Nat} (Γ : zC Wf V m nL H0 cc RX4 lv Rc Rs) {q : Nat} {fs : List Value} {x : Int32} {h' : Nat → zE} (hd : decode cc pc = .ok (.putfield 167, 3)) (hq : q < n) (he : h q = zO 4 fs) (hlen : 5 < fs.length) (hh : zup h q (zO 4 (fs.set 5 (.int x))) = h') (kk : zX Wf V m nL H0 (pc + 3) f st h' n k sl) : zX Wf V m nL H0 pc f (.int x :: .ref q :: st) h n k sl := x_putf Γ (C := RX4) (T := TX4) (N := 17) (j := 5) (ty := .int) wu_X4 tyX4 tyX4_ok nmX4 rfl (by decide) wl_X4_167 rfl (by decide +kernel) hd hq he hlen (fun _ => rfl) (fun _ => rfl) hh kk
theorem gf_X4_171 {Wf : zW} {V : zG} {m : MethodId} {nL : Nat} {H0 : Heap} {cc : ByteArray} {lv Rc Rs : Nat} {pc : Nat} {f : Nat → Option Value} {st : List Value} {h : Nat → zE} {n k sl : Nat} (Γ : zC Wf V m nL H0 cc RX4 lv Rc Rs) {q : Nat} {fs : List Value} {v : Value} (hd : decode cc pc = .ok (.getfield 171, 3)) (hq : q < n) (he : h q = zO 4 fs) (hv : fs[6]? = some v) (kk : zX Wf V m nL H0 (pc + 3) f (v :: st) h n k sl) : zX Wf V m nL H0 pc f (.ref q :: st) h n k sl := x_getf Γ (C := RX4) (T := TX4) (N := 17) (j := 6) wu_X4 rfl (by decide) wl_X4_171 hd hq he hv kk
theorem pf_X4_171 {Wf : zW} {V : zG} {m : MethodId} {nL : Nat} {H0 : Heap} {cc : ByteArray} {lv Rc Rs : Nat} {pc : Nat} {f : Nat → Option Value} {st : List Value} {h : Nat → zE} {n k sl : Nat} (Γ : zC Wf V m nL H0 cc RX4 lv Rc Rs) {q : Nat} {fs : List Value} {x : Int32} {h' : Nat → zE} (hd : decode cc pc = .ok (.putfield 171, 3)) (hq : q < n) (he : h q = zO 4 fs) (hlen : 6 < fs.length) (hh : zup h q (zO 4 (fs.set 6 (.int x))) = h') (kk : zX Wf V m nL H0 (pc + 3) f st h' n k sl) : zX Wf V m nL H0 pc f (.int x :: .ref q :: st) h n k sl := x_putf Γ (C := RX4) (T := TX4) (N := 17) (j := 6) (ty := .int) wu_X4 tyX4 tyX4_ok nmX4 rfl (by decide) wl_X4_171 rfl (by decide +kernel) hd hq he hlen (fun _ => rfl) (fun _ => rfl) hh kk
theorem gf_X4_22 {Wf : zW} {V : zG} {m : MethodId} {nL : Nat} {H0 : Heap} {cc : ByteArray} {lv Rc Rs : Nat} {pc : Nat} {f : Nat → Option Value} {st : List Value} {h : Nat → zE} {n k sl : Nat} (Γ : zC Wf V m nL H0 cc RX4 lv Rc Rs) {q : Nat} {fs : List Value} {v : Value} (hd : decode cc pc = .ok (.getfield 22, 3)) (hq : q < n) (he : h q = zO 4 fs) (hv : fs[7]? = some v) (kk : zX Wf V m nL H0 (pc + 3) f (v :: st) h n k sl) : zX Wf V m nL H0 pc f (.ref q :: st) h n k sl := x_getf Γ (C := RX4) (T := TX4) (N := 17) (j := 7) wu_X4 rfl (by decide) wl_X4_22 hd hq he hv kk
theorem gf_X4_197 {Wf : zW} {V : zG} {m : MethodId} {nL : Nat} {H0 : Heap} {cc : ByteArray} {lv Rc Rs : Nat} {pc : Nat} {f : Nat → Option Value} {st : List Value} {h : Nat → zE} {n k sl : Nat} (Γ : zC Wf V m nL H0 cc RX4 lv Rc Rs) {q : Nat} {fs : List Value} {v : Value} (hd : decode cc pc = .ok (.getfield 197, 3)) (hq : q < n) (he : h q = zO 4 fs) (hv : fs[8]? = some v) (kk : zX Wf V m nL H0 (pc + 3) f (v :: st) h n k sl) : zX Wf V m nL H0 pc f (.ref q :: st) h n k sl := x_getf Γ (C := RX4) (T := TX4) (N := 17) (j := 8) wu_X4 rfl (by decide) wl_X4_197 hd hq he hv kk
theorem pf_X4_197 {Wf : zW} {V : zG} {m : MethodId} {nL : Nat} {H0 : Heap} {cc : ByteArray} {lv Rc Rs : Nat} {pc : Nat} {f : Nat → Option Value} {st : List Value} {h : Nat → zE} {n k sl : Nat} (Γ : zC Wf V m nL H0 cc RX4 lv Rc Rs) {q : Nat} {fs : List Value} {x : Int32} {h' : Nat → zE} (hd : decode cc pc = .ok (.putfield 197, 3)) (hq : q < n) (he : h q = zO 4 fs) (hlen : 8 < fs.length) (hh : zup h q (zO 4 (fs.set 8 (.int x))) = h') (kk : zX Wf V m nL H0 (pc + 3) f st h' n k sl) : zX Wf V m nL H0 pc f (.int x :: .ref q :: st) h n k sl := x_putf Γ (C := RX4) (T := TX4) (N := 17) (j := 8) (ty := .int) wu_X4 tyX4 tyX4_ok nmX4 rfl (by decide) wl_X4_197 rfl (by decide +kernel) hd hq he hlen (fun _ => rfl) (fun _ => rfl) hh kk
theorem gf_X4_212 {Wf : zW} {V : zG} {m : MethodId} {nL : Nat} {H0 : Heap} {cc : ByteArray} {lv Rc Rs : Nat} {pc : Nat} {f : Nat → Option Value} {st : List Value} {h : Nat → zE} {n k sl : Nat} (Γ : zC Wf V m nL H0 cc RX4 lv Rc Rs) {q : Nat} {fs : List Value} {v : Value} (hd : decode cc pc = .ok (.getfield 212, 3)) (hq : q < n) (he : h q = zO 4 fs) (hv : fs[9]? = some v) (kk : zX Wf V m nL H0 (pc + 3) f (v :: st) h n k sl) : zX Wf V m nL H0 pc f (.ref q :: st) h n k sl := x_getf Γ (C := RX4) (T := TX4) (N := 17) (j := 9) wu_X4 rfl (by decide) wl_X4_212 hd hq he hv kk
theorem pf_X4_212 {Wf : zW} {V : zG} {m : MethodId} {nL : Nat} {H0 : Heap} {cc : ByteArray} {lv Rc Rs : Nat} {pc : Nat} {f : Nat → Option Value} {st : List Value} {h : Nat → zE} {n k sl : Nat} (Γ : zC Wf V m nL H0 cc RX4 lv Rc Rs) {q : Nat} {fs : List Value} {x : Int32} {h' : Nat → zE} (hd : decode cc pc = .ok (.putfield 212, 3)) (hq : q < n) (he : h q = zO 4 fs) (hlen : 9 < fs.length) (hh : zup h q (zO 4 (fs.set 9 (.int x))) = h') (kk : zX Wf V m nL H0 (pc + 3) f st h' n k sl) : zX Wf V m nL H0 pc f (.int x :: .ref q :: st) h n k sl := x_putf Γ (C := RX4) (T := TX4) (N := 17) (j := 9) (ty := .int) wu_X4 tyX4 tyX4_ok nmX4 rfl (by decide) wl_X4_212 rfl (by decide +kernel) hd hq he hlen (fun _ => rfl) (fun _ => rfl) hh kk
theorem gf_X4_203 {Wf : zW} {V : zG} {m : MethodId} {nL : Nat} {H0 : Heap} {cc : ByteArray} {lv Rc Rs : Nat} {pc : Nat} {f : Nat → Option Value} {st : List Value} {h : Nat → zE} {n k sl : Nat} (Γ : zC Wf V m nL H0 cc RX4 lv Rc Rs) {q : Nat} {fs : List Value} {v : Value} (hd : decode cc pc = .ok (.getfield 203, 3)) (hq : q < n) (he : h q = zO 4 fs) (hv : fs[10]? = some v) (kk : zX Wf V m nL H0 (pc + 3) f (v :: st) h n k sl) : zX Wf V m nL H0 pc f (.ref q :: st) h n k sl := x_getf Γ (C := RX4) (T := TX4) (N := 17) (j := 10) wu_X4 rfl (by decide) wl_X4_203 hd hq he hv kk
theorem pf_X4_203 {Wf : zW} {V : zG} {m : MethodId} {nL : Nat} {H0 : Heap} {cc : ByteArray} {lv Rc Rs : Nat} {pc : Nat} {f : Nat → Option Value} {st : List Value} {h : Nat → zE} {n k sl : Nat} (Γ : zC Wf V m nL H0 cc RX4 lv Rc Rs) {q : Nat} {fs : List Value} {x : Int32} {h' : Nat → zE} (hd : decode cc pc = .ok (.putfield 203, 3)) (hq : q < n) (he : h q = zO 4 fs) (hlen : 10 < fs.length) (hh : zup h q (zO 4 (fs.set 10 (.int x))) = h') (kk : zX Wf V m nL H0 (pc + 3) f st h' n k sl) : zX Wf V m nL H0 pc f (.int x :: .ref q :: st) h n k sl := x_putf Γ (C := RX4) (T := TX4) (N := 17) (j := 10) (ty := .int) wu_X4 tyX4 tyX4_ok nmX4 rfl (by decide) wl_X4_203 rfl (by decide +kernel) hd hq he hlen (fun _ => rfl) (fun _ => rfl) hh kk
theorem gf_X4_200 {Wf : zW} {V : zG} {m : MethodId} {nL : Nat} {H0 : Heap} {cc : ByteArray} {lv Rc Rs : Nat} {pc : Nat} {f : Nat → Option Value} {st : List Value} {h : Nat → zE} {n k sl : Nat} (Γ : zC Wf V m nL H0 cc RX4 lv Rc Rs) {q : Nat} {fs : List Value} {v : Value} (hd : decode cc pc = .ok (.getfield 200, 3)) (hq : q < n) (he : h q = zO 4 fs) (hv : fs[11]? = some v) (kk : zX Wf V m nL H0 (pc + 3) f (v :: st) h n k sl) : zX Wf V m nL H0 pc f (.ref q :: st) h n k sl := x_getf Γ (C := RX4) (T := TX4) (N := 17) (j := 11) wu_X4 rfl (by decide) wl_X4_200 hd hq he hv kk
theorem pf_X4_200 {Wf : zW} {V : zG} {m : MethodId} {nL : Nat} {H0 : Heap} {cc : ByteArray} {lv Rc Rs : Nat} {pc : Nat} {f : Nat → Option Value} {st : List Value} {h : Nat → zE} {n k sl : Nat} (Γ : zC Wf V m nL H0 cc RX4 lv Rc Rs) {q : Nat} {fs : List Value} {x : Int32} {h' : Nat → zE} (hd : decode cc pc = .ok (.putfield 200, 3)) (hq : q < n) (he : h q = zO 4 fs) (hlen : 11 < fs.length) (hh : zup h q (zO 4 (fs.set 11 (.int x))) = h') (kk : zX Wf V m nL H0 (pc + 3) f st h' n k sl) : zX Wf V m nL H0 pc f (.int x :: .ref q :: st) h n k sl := x_putf Γ (C := RX4) (T := TX4) (N := 17) (j := 11) (ty := .int) wu_X4 tyX4 tyX4_ok nmX4 rfl (by decide) wl_X4_200 rfl (by decide +kernel) hd hq he hlen (fun _ => rfl) (fun _ => rfl) hh kk
theorem gf_X4_209 {Wf : zW} {V : zG} {m : MethodId} {nL : Nat} {H0 : Heap} {cc : ByteArray} {lv Rc Rs : Nat} {pc : Nat} {f : Nat → Option Value} {st : List Value} {h : Nat → zE} {n k sl : Nat} (Γ : zC Wf V m nL H0 cc RX4 lv Rc Rs) {q : Nat} {fs : List Value} {v : Value} (hd : decode cc pc = .ok (.getfield 209, 3)) (hq : q < n) (he : h q = zO 4 fs) (hv : fs[12]? = some v) (kk : zX Wf V m nL H0 (pc + 3) f (v :: st) h n k sl) : zX Wf V m nL H0 pc f (.ref q :: st) h n k sl := x_getf Γ (C := RX4) (T := TX4) (N := 17) (j := 12) wu_X4 rfl (by decide) wl_X4_209 hd hq he hv kk
theorem pf_X4_209 {Wf : zW} {V : zG} {m : MethodId} {nL : Nat} {H0 : Heap} {cc : ByteArray} {lv Rc Rs : Nat} {pc : Nat} {f : Nat → Option Value} {st : List Value} {h : Nat → zE} {n k sl : Nat} (Γ : zC Wf V m nL H0 cc RX4 lv Rc Rs) {q : Nat} {fs : List Value} {x : Int32} {h' : Nat → zE} (hd : decode cc pc = .ok (.putfield 209, 3)) (hq : q < n) (he : h q = zO 4 fs) (hlen : 12 < fs.length) (hh : zup h q (zO 4 (fs.set 12 (.int x))) = h') (kk : zX Wf V m nL H0 (pc + 3) f st h' n k sl) : zX Wf V m nL H0 pc f (.int x :: .ref q :: st) h n k sl := x_putf Γ (C := RX4) (T := TX4) (N := 17) (j := 12) (ty := .int) wu_X4 tyX4 tyX4_ok nmX4 rfl (by decide) wl_X4_209 rfl (by decide +kernel) hd hq he hlen (fun _ => rfl) (fun _ => rfl) hh kk
theorem gf_X4_215 {Wf : zW} {V : zG} {m : MethodId} {nL : Nat} {H0 : Heap} {cc : ByteArray} {lv Rc Rs : Nat} {pc : Nat} {f : Nat → Option Value} {st : List Value} {h : Nat → zE} {n k sl : Nat} (Γ : zC Wf V m nL H0 cc RX4 lv Rc Rs) {q : Nat} {fs : List Value} {v : Value} (hd : decode cc pc = .ok (.getfield 215, 3)) (hq : q < n) (he : h q = zO 4 fs) (hv : fs[13]? = some v) (kk : zX Wf V m nL H0 (pc + 3) f (v :: st) h n k sl) : zX Wf V m nL H0 pc f (.ref q :: st) h n k sl := x_getf Γ (C := RX4) (T := TX4) (N := 17) (j := 13) wu_X4 rfl (by decide) wl_X4_215 hd hq he hv kk
theorem pf_X4_215 {Wf : zW} {V : zG} {m : MethodId} {nL : Nat} {H0 : Heap} {cc : ByteArray} {lv Rc Rs : Nat} {pc : Nat} {f : Nat → Option Value} {st : List Value} {h : Nat → zE} {n k sl : Nat} (Γ : zC Wf V m nL H0 cc RX4 lv Rc Rs) {q : Nat} {fs : List Value} {x : Int32} (hx : x &&& 1 = x) {h' : Nat → zE} (hd : decode cc pc = .ok (.putfield 215, 3)) (hq : q < n) (he : h q = zO 4 fs) (hlen : 13 < fs.length) (hh : zup h q (zO 4 (fs.set 13 (.int x))) = h') (kk : zX Wf V m nL H0 (pc + 3) f st h' n k sl) : zX Wf V m nL H0 pc f (.int x :: .ref q :: st) h n k sl := x_putf Γ (C := RX4) (T := TX4) (N := 17) (j := 13) (ty := .boolean) wu_X4 tyX4 tyX4_ok nmX4 rfl (by decide) wl_X4_215 rfl (by decide +kernel) hd hq he hlen (fun _ => congrArg Value.int hx) (fun _ => zfitZ hx) hh kk
theorem gf_X4_25 {Wf : zW} {V : zG} {m : MethodId} {nL : Nat} {H0 : Heap} {cc : ByteArray} {lv Rc Rs : Nat} {pc : Nat} {f : Nat → Option Value} {st : List Value} {h : Nat → zE} {n k sl : Nat} (Γ : zC Wf V m nL H0 cc RX4 lv Rc Rs) {q : Nat} {fs : List Value} {v : Value} (hd : decode cc pc = .ok (.getfield 25, 3)) (hq : q < n) (he : h q = zO 4 fs) (hv : fs[14]? = some v) (kk : zX Wf V m nL H0 (pc + 3) f (v :: st) h n k sl) : zX Wf V m nL H0 pc f (.ref q :: st) h n k sl := x_getf Γ (C := RX4) (T := TX4) (N := 17) (j := 14) wu_X4 rfl (by decide) wl_X4_25 hd hq he hv kk
theorem gf_X4_28 {Wf : zW} {V : zG} {m : MethodId} {nL : Nat} {H0 : Heap} {cc : ByteArray} {lv Rc Rs : Nat} {pc : Nat} {f : Nat → Option Value} {st : List Value} {h : Nat → zE} {n k sl : Nat} (Γ : zC Wf V m nL H0 cc RX4 lv Rc Rs) {q : Nat} {fs : List Value} {v : Value} (hd : decode cc pc = .ok (.getfield 28, 3)) (hq : q < n) (he : h q = zO 4 fs) (hv : fs[15]? = some v) (kk : zX Wf V m nL H0 (pc + 3) f (v :: st) h n k sl) : zX Wf V m nL H0 pc f (.ref q :: st) h n k sl := x_getf Γ (C := RX4) (T := TX4) (N := 17) (j := 15) wu_X4 rfl (by decide) wl_X4_28 hd hq he hv kk
theorem gf_X4_31 {Wf : zW} {V : zG} {m : MethodId} {nL : Nat} {H0 : Heap} {cc : ByteArray} {lv Rc Rs : Nat} {pc : Nat} {f : Nat → Option Value} {st : List Value} {h : Nat → zE} {n k sl : Nat} (Γ : zC Wf V m nL H0 cc RX4 lv Rc Rs) {q : Nat} {fs : List Value} {v : Value} (hd : decode cc pc = .ok (.getfield 31, 3)) (hq : q < n) (he : h q = zO 4 fs) (hv : fs[16]? = some v) (kk : zX Wf V m nL H0 (pc + 3) f (v :: st) h n k sl) : zX Wf V m nL H0 pc f (.ref q :: st) h n k sl := x_getf Γ (C := RX4) (T := TX4) (N := 17) (j := 16) wu_X4 rfl (by decide) wl_X4_31 hd hq he hv kk
