/-! what a field holds behind a write: what an IMAGE keeps -/
theorem nX6_page_left (S : SX6) (v : (Nat → Int32)) : gX6_page (sX6_left S v) = gX6_page S := id rfl
theorem nX6_pageMany_left (S : SX6) (v : (Nat → Int32)) : gX6_pageMany (sX6_left S v) = gX6_pageMany S := id rfl
theorem nX6_left_left (S : SX6) (v : (Nat → Int32)) : gX6_left (sX6_left S v) = v := id rfl
theorem nX6_right_left (S : SX6) (v : (Nat → Int32)) : gX6_right (sX6_left S v) = gX6_right S := id rfl
theorem nX6_above_left (S : SX6) (v : (Nat → Int32)) : gX6_above (sX6_left S v) = gX6_above S := id rfl
theorem nX6_there_left (S : SX6) (v : (Nat → Int32)) : gX6_there (sX6_left S v) = gX6_there S := id rfl
theorem nX6_root_left (S : SX6) (v : (Nat → Int32)) : gX6_root (sX6_left S v) = gX6_root S := id rfl
theorem nX6_many_left (S : SX6) (v : (Nat → Int32)) : gX6_many (sX6_left S v) = gX6_many S := id rfl
theorem nX6_most_left (S : SX6) (v : (Nat → Int32)) : gX6_most (sX6_left S v) = gX6_most S := id rfl
theorem nX6_builtNow_left (S : SX6) (v : (Nat → Int32)) : gX6_builtNow (sX6_left S v) = gX6_builtNow S := id rfl
theorem nX6_built_left (S : SX6) (v : (Nat → Int32)) : gX6_built (sX6_left S v) = gX6_built S := id rfl
theorem nX6_cost_left (S : SX6) (v : (Nat → Int32)) : gX6_cost (sX6_left S v) = gX6_cost S := id rfl
theorem nX6_kinds_left (S : SX6) (v : (Nat → Int32)) : gX6_kinds (sX6_left S v) = gX6_kinds S := id rfl
theorem nX6_values_left (S : SX6) (v : (Nat → Int32)) : gX6_values (sX6_left S v) = gX6_values S := id rfl
theorem nX6_ratioA_left (S : SX6) (v : (Nat → Int32)) : gX6_ratioA (sX6_left S v) = gX6_ratioA S := id rfl
theorem nX6_ratioB_left (S : SX6) (v : (Nat → Int32)) : gX6_ratioB (sX6_left S v) = gX6_ratioB S := id rfl
theorem nX6_thenA_left (S : SX6) (v : (Nat → Int32)) : gX6_thenA (sX6_left S v) = gX6_thenA S := id rfl
theorem nX6_thenB_left (S : SX6) (v : (Nat → Int32)) : gX6_thenB (sX6_left S v) = gX6_thenB S := id rfl
theorem nX6_fee_left (S : SX6) (v : (Nat → Int32)) : gX6_fee (sX6_left S v) = gX6_fee S := id rfl
theorem nX6_credit_left (S : SX6) (v : (Nat → Int32)) : gX6_credit (sX6_left S v) = gX6_credit S := id rfl
theorem nX6_lowest_left (S : SX6) (v : (Nat → Int32)) : gX6_lowest (sX6_left S v) = gX6_lowest S := id rfl
theorem nX6_log_left (S : SX6) (v : (Nat → Int32)) : gX6_log (sX6_left S v) = gX6_log S := id rfl
theorem nX6_logMany_left (S : SX6) (v : (Nat → Int32)) : gX6_logMany (sX6_left S v) = gX6_logMany S := id rfl
theorem nX6_shelvesRead_left (S : SX6) (v : (Nat → Int32)) : gX6_shelvesRead (sX6_left S v) = gX6_shelvesRead S := id rfl
theorem nX6_row_left (S : SX6) (v : (Nat → Int32)) : gX6_row (sX6_left S v) = gX6_row S := id rfl
theorem nX6_spanLow_left (S : SX6) (v : (Nat → Int32)) : gX6_spanLow (sX6_left S v) = gX6_spanLow S := id rfl
theorem nX6_spanHigh_left (S : SX6) (v : (Nat → Int32)) : gX6_spanHigh (sX6_left S v) = gX6_spanHigh S := id rfl
theorem nX6_spanOn_left (S : SX6) (v : (Nat → Int32)) : gX6_spanOn (sX6_left S v) = gX6_spanOn S := id rfl
theorem nX6_seenMany_left (S : SX6) (v : (Nat → Int32)) : gX6_seenMany (sX6_left S v) = gX6_seenMany S := id rfl
theorem nX6_sights_left (S : SX6) (v : (Nat → Int32)) : gX6_sights (sX6_left S v) = gX6_sights S := id rfl
theorem nX6_seedNow_left (S : SX6) (v : (Nat → Int32)) : gX6_seedNow (sX6_left S v) = gX6_seedNow S := id rfl
theorem nX6_keptShelf_left (S : SX6) (v : (Nat → Int32)) : gX6_keptShelf (sX6_left S v) = gX6_keptShelf S := id rfl
theorem nX6_keptRoot_left (S : SX6) (v : (Nat → Int32)) : gX6_keptRoot (sX6_left S v) = gX6_keptRoot S := id rfl
theorem nX6_keptMany_left (S : SX6) (v : (Nat → Int32)) : gX6_keptMany (sX6_left S v) = gX6_keptMany S := id rfl
theorem nX6_keptMost_left (S : SX6) (v : (Nat → Int32)) : gX6_keptMost (sX6_left S v) = gX6_keptMost S := id rfl
theorem nX6_keptBuilt_left (S : SX6) (v : (Nat → Int32)) : gX6_keptBuilt (sX6_left S v) = gX6_keptBuilt S := id rfl
theorem nX6_keptCost_left (S : SX6) (v : (Nat → Int32)) : gX6_keptCost (sX6_left S v) = gX6_keptCost S := id rfl
theorem nX6_keptCredit_left (S : SX6) (v : (Nat → Int32)) : gX6_keptCredit (sX6_left S v) = gX6_keptCredit S := id rfl
theorem nX6_keptLowest_left (S : SX6) (v : (Nat → Int32)) : gX6_keptLowest (sX6_left S v) = gX6_keptLowest S := id rfl
theorem nX6_keptLogMany_left (S : SX6) (v : (Nat → Int32)) : gX6_keptLogMany (sX6_left S v) = gX6_keptLogMany S := id rfl
theorem nX6_keptSeen_left (S : SX6) (v : (Nat → Int32)) : gX6_keptSeen (sX6_left S v) = gX6_keptSeen S := id rfl
theorem nX6_keptLeft_left (S : SX6) (v : (Nat → Int32)) : gX6_keptLeft (sX6_left S v) = gX6_keptLeft S := id rfl
theorem nX6_keptRight_left (S : SX6) (v : (Nat → Int32)) : gX6_keptRight (sX6_left S v) = gX6_keptRight S := id rfl
theorem nX6_keptAbove_left (S : SX6) (v : (Nat → Int32)) : gX6_keptAbove (sX6_left S v) = gX6_keptAbove S := id rfl
theorem nX6_keptThere_left (S : SX6) (v : (Nat → Int32)) : gX6_keptThere (sX6_left S v) = gX6_keptThere S := id rfl
theorem nX6_keptKinds_left (S : SX6) (v : (Nat → Int32)) : gX6_keptKinds (sX6_left S v) = gX6_keptKinds S := id rfl
theorem nX6_keptValues_left (S : SX6) (v : (Nat → Int32)) : gX6_keptValues (sX6_left S v) = gX6_keptValues S := id rfl
theorem nX6_keptLog_left (S : SX6) (v : (Nat → Int32)) : gX6_keptLog (sX6_left S v) = gX6_keptLog S := id rfl
theorem nX6_keptSights_left (S : SX6) (v : (Nat → Int32)) : gX6_keptSights (sX6_left S v) = gX6_keptSights S := id rfl
theorem nX6_hash_left (S : SX6) (v : (Nat → Int32)) : gX6_hash (sX6_left S v) = gX6_hash S := id rfl
theorem nX6_page_right (S : SX6) (v : (Nat → Int32)) : gX6_page (sX6_right S v) = gX6_page S := id rfl
theorem nX6_pageMany_right (S : SX6) (v : (Nat → Int32)) : gX6_pageMany (sX6_right S v) = gX6_pageMany S := id rfl
theorem nX6_left_right (S : SX6) (v : (Nat → Int32)) : gX6_left (sX6_right S v) = gX6_left S := id rfl
theorem nX6_right_right (S : SX6) (v : (Nat → Int32)) : gX6_right (sX6_right S v) = v := id rfl
theorem nX6_above_right (S : SX6) (v : (Nat → Int32)) : gX6_above (sX6_right S v) = gX6_above S := id rfl
theorem nX6_there_right (S : SX6) (v : (Nat → Int32)) : gX6_there (sX6_right S v) = gX6_there S := id rfl
theorem nX6_root_right (S : SX6) (v : (Nat → Int32)) : gX6_root (sX6_right S v) = gX6_root S := id rfl
theorem nX6_many_right (S : SX6) (v : (Nat → Int32)) : gX6_many (sX6_right S v) = gX6_many S := id rfl
theorem nX6_most_right (S : SX6) (v : (Nat → Int32)) : gX6_most (sX6_right S v) = gX6_most S := id rfl
theorem nX6_builtNow_right (S : SX6) (v : (Nat → Int32)) : gX6_builtNow (sX6_right S v) = gX6_builtNow S := id rfl
theorem nX6_built_right (S : SX6) (v : (Nat → Int32)) : gX6_built (sX6_right S v) = gX6_built S := id rfl
theorem nX6_cost_right (S : SX6) (v : (Nat → Int32)) : gX6_cost (sX6_right S v) = gX6_cost S := id rfl
theorem nX6_kinds_right (S : SX6) (v : (Nat → Int32)) : gX6_kinds (sX6_right S v) = gX6_kinds S := id rfl
theorem nX6_values_right (S : SX6) (v : (Nat → Int32)) : gX6_values (sX6_right S v) = gX6_values S := id rfl
theorem nX6_ratioA_right (S : SX6) (v : (Nat → Int32)) : gX6_ratioA (sX6_right S v) = gX6_ratioA S := id rfl
theorem nX6_ratioB_right (S : SX6) (v : (Nat → Int32)) : gX6_ratioB (sX6_right S v) = gX6_ratioB S := id rfl
theorem nX6_thenA_right (S : SX6) (v : (Nat → Int32)) : gX6_thenA (sX6_right S v) = gX6_thenA S := id rfl
theorem nX6_thenB_right (S : SX6) (v : (Nat → Int32)) : gX6_thenB (sX6_right S v) = gX6_thenB S := id rfl
theorem nX6_fee_right (S : SX6) (v : (Nat → Int32)) : gX6_fee (sX6_right S v) = gX6_fee S := id rfl
theorem nX6_credit_right (S : SX6) (v : (Nat → Int32)) : gX6_credit (sX6_right S v) = gX6_credit S := id rfl
theorem nX6_lowest_right (S : SX6) (v : (Nat → Int32)) : gX6_lowest (sX6_right S v) = gX6_lowest S := id rfl
theorem nX6_log_right (S : SX6) (v : (Nat → Int32)) : gX6_log (sX6_right S v) = gX6_log S := id rfl
theorem nX6_logMany_right (S : SX6) (v : (Nat → Int32)) : gX6_logMany (sX6_right S v) = gX6_logMany S := id rfl
theorem nX6_shelvesRead_right (S : SX6) (v : (Nat → Int32)) : gX6_shelvesRead (sX6_right S v) = gX6_shelvesRead S := id rfl
theorem nX6_row_right (S : SX6) (v : (Nat → Int32)) : gX6_row (sX6_right S v) = gX6_row S := id rfl
theorem nX6_spanLow_right (S : SX6) (v : (Nat → Int32)) : gX6_spanLow (sX6_right S v) = gX6_spanLow S := id rfl
theorem nX6_spanHigh_right (S : SX6) (v : (Nat → Int32)) : gX6_spanHigh (sX6_right S v) = gX6_spanHigh S := id rfl
theorem nX6_spanOn_right (S : SX6) (v : (Nat → Int32)) : gX6_spanOn (sX6_right S v) = gX6_spanOn S := id rfl
theorem nX6_seenMany_right (S : SX6) (v : (Nat → Int32)) : gX6_seenMany (sX6_right S v) = gX6_seenMany S := id rfl
theorem nX6_sights_right (S : SX6) (v : (Nat → Int32)) : gX6_sights (sX6_right S v) = gX6_sights S := id rfl
theorem nX6_seedNow_right (S : SX6) (v : (Nat → Int32)) : gX6_seedNow (sX6_right S v) = gX6_seedNow S := id rfl
theorem nX6_keptShelf_right (S : SX6) (v : (Nat → Int32)) : gX6_keptShelf (sX6_right S v) = gX6_keptShelf S := id rfl
theorem nX6_keptRoot_right (S : SX6) (v : (Nat → Int32)) : gX6_keptRoot (sX6_right S v) = gX6_keptRoot S := id rfl
theorem nX6_keptMany_right (S : SX6) (v : (Nat → Int32)) : gX6_keptMany (sX6_right S v) = gX6_keptMany S := id rfl
theorem nX6_keptMost_right (S : SX6) (v : (Nat → Int32)) : gX6_keptMost (sX6_right S v) = gX6_keptMost S := id rfl
theorem nX6_keptBuilt_right (S : SX6) (v : (Nat → Int32)) : gX6_keptBuilt (sX6_right S v) = gX6_keptBuilt S := id rfl
theorem nX6_keptCost_right (S : SX6) (v : (Nat → Int32)) : gX6_keptCost (sX6_right S v) = gX6_keptCost S := id rfl
theorem nX6_keptCredit_right (S : SX6) (v : (Nat → Int32)) : gX6_keptCredit (sX6_right S v) = gX6_keptCredit S := id rfl
theorem nX6_keptLowest_right (S : SX6) (v : (Nat → Int32)) : gX6_keptLowest (sX6_right S v) = gX6_keptLowest S := id rfl
theorem nX6_keptLogMany_right (S : SX6) (v : (Nat → Int32)) : gX6_keptLogMany (sX6_right S v) = gX6_keptLogMany S := id rfl
theorem nX6_keptSeen_right (S : SX6) (v : (Nat → Int32)) : gX6_keptSeen (sX6_right S v) = gX6_keptSeen S := id rfl
theorem nX6_keptLeft_right (S : SX6) (v : (Nat → Int32)) : gX6_keptLeft (sX6_right S v) = gX6_keptLeft S := id rfl
theorem nX6_keptRight_right (S : SX6) (v : (Nat → Int32)) : gX6_keptRight (sX6_right S v) = gX6_keptRight S := id rfl
theorem nX6_keptAbove_right (S : SX6) (v : (Nat → Int32)) : gX6_keptAbove (sX6_right S v) = gX6_keptAbove S := id rfl
theorem nX6_keptThere_right (S : SX6) (v : (Nat → Int32)) : gX6_keptThere (sX6_right S v) = gX6_keptThere S := id rfl
theorem nX6_keptKinds_right (S : SX6) (v : (Nat → Int32)) : gX6_keptKinds (sX6_right S v) = gX6_keptKinds S := id rfl
theorem nX6_keptValues_right (S : SX6) (v : (Nat → Int32)) : gX6_keptValues (sX6_right S v) = gX6_keptValues S := id rfl
theorem nX6_keptLog_right (S : SX6) (v : (Nat → Int32)) : gX6_keptLog (sX6_right S v) = gX6_keptLog S := id rfl
theorem nX6_keptSights_right (S : SX6) (v : (Nat → Int32)) : gX6_keptSights (sX6_right S v) = gX6_keptSights S := id rfl
theorem nX6_hash_right (S : SX6) (v : (Nat → Int32)) : gX6_hash (sX6_right S v) = gX6_hash S := id rfl
theorem nX6_page_above (S : SX6) (v : (Nat → Int32)) : gX6_page (sX6_above S v) = gX6_page S := id rfl
theorem nX6_pageMany_above (S : SX6) (v : (Nat → Int32)) : gX6_pageMany (sX6_above S v) = gX6_pageMany S := id rfl
theorem nX6_left_above (S : SX6) (v : (Nat → Int32)) : gX6_left (sX6_above S v) = gX6_left S := id rfl
theorem nX6_right_above (S : SX6) (v : (Nat → Int32)) : gX6_right (sX6_above S v) = gX6_right S := id rfl
theorem nX6_above_above (S : SX6) (v : (Nat → Int32)) : gX6_above (sX6_above S v) = v := id rfl
theorem nX6_there_above (S : SX6) (v : (Nat → Int32)) : gX6_there (sX6_above S v) = gX6_there S := id rfl
theorem nX6_root_above (S : SX6) (v : (Nat → Int32)) : gX6_root (sX6_above S v) = gX6_root S := id rfl
theorem nX6_many_above (S : SX6) (v : (Nat → Int32)) : gX6_many (sX6_above S v) = gX6_many S := id rfl
theorem nX6_most_above (S : SX6) (v : (Nat → Int32)) : gX6_most (sX6_above S v) = gX6_most S := id rfl
theorem nX6_builtNow_above (S : SX6) (v : (Nat → Int32)) : gX6_builtNow (sX6_above S v) = gX6_builtNow S := id rfl
theorem nX6_built_above (S : SX6) (v : (Nat → Int32)) : gX6_built (sX6_above S v) = gX6_built S := id rfl
theorem nX6_cost_above (S : SX6) (v : (Nat → Int32)) : gX6_cost (sX6_above S v) = gX6_cost S := id rfl
theorem nX6_kinds_above (S : SX6) (v : (Nat → Int32)) : gX6_kinds (sX6_above S v) = gX6_kinds S := id rfl
theorem nX6_values_above (S : SX6) (v : (Nat → Int32)) : gX6_values (sX6_above S v) = gX6_values S := id rfl
theorem nX6_ratioA_above (S : SX6) (v : (Nat → Int32)) : gX6_ratioA (sX6_above S v) = gX6_ratioA S := id rfl
theorem nX6_ratioB_above (S : SX6) (v : (Nat → Int32)) : gX6_ratioB (sX6_above S v) = gX6_ratioB S := id rfl
theorem nX6_thenA_above (S : SX6) (v : (Nat → Int32)) : gX6_thenA (sX6_above S v) = gX6_thenA S := id rfl
theorem nX6_thenB_above (S : SX6) (v : (Nat → Int32)) : gX6_thenB (sX6_above S v) = gX6_thenB S := id rfl
theorem nX6_fee_above (S : SX6) (v : (Nat → Int32)) : gX6_fee (sX6_above S v) = gX6_fee S := id rfl
theorem nX6_credit_above (S : SX6) (v : (Nat → Int32)) : gX6_credit (sX6_above S v) = gX6_credit S := id rfl
theorem nX6_lowest_above (S : SX6) (v : (Nat → Int32)) : gX6_lowest (sX6_above S v) = gX6_lowest S := id rfl
theorem nX6_log_above (S : SX6) (v : (Nat → Int32)) : gX6_log (sX6_above S v) = gX6_log S := id rfl
theorem nX6_logMany_above (S : SX6) (v : (Nat → Int32)) : gX6_logMany (sX6_above S v) = gX6_logMany S := id rfl
theorem nX6_shelvesRead_above (S : SX6) (v : (Nat → Int32)) : gX6_shelvesRead (sX6_above S v) = gX6_shelvesRead S := id rfl
theorem nX6_row_above (S : SX6) (v : (Nat → Int32)) : gX6_row (sX6_above S v) = gX6_row S := id rfl
theorem nX6_spanLow_above (S : SX6) (v : (Nat → Int32)) : gX6_spanLow (sX6_above S v) = gX6_spanLow S := id rfl
theorem nX6_spanHigh_above (S : SX6) (v : (Nat → Int32)) : gX6_spanHigh (sX6_above S v) = gX6_spanHigh S := id rfl
theorem nX6_spanOn_above (S : SX6) (v : (Nat → Int32)) : gX6_spanOn (sX6_above S v) = gX6_spanOn S := id rfl
theorem nX6_seenMany_above (S : SX6) (v : (Nat → Int32)) : gX6_seenMany (sX6_above S v) = gX6_seenMany S := id rfl
theorem nX6_sights_above (S : SX6) (v : (Nat → Int32)) : gX6_sights (sX6_above S v) = gX6_sights S := id rfl
theorem nX6_seedNow_above (S : SX6) (v : (Nat → Int32)) : gX6_seedNow (sX6_above S v) = gX6_seedNow S := id rfl
theorem nX6_keptShelf_above (S : SX6) (v : (Nat → Int32)) : gX6_keptShelf (sX6_above S v) = gX6_keptShelf S := id rfl
theorem nX6_keptRoot_above (S : SX6) (v : (Nat → Int32)) : gX6_keptRoot (sX6_above S v) = gX6_keptRoot S := id rfl
theorem nX6_keptMany_above (S : SX6) (v : (Nat → Int32)) : gX6_keptMany (sX6_above S v) = gX6_keptMany S := id rfl
theorem nX6_keptMost_above (S : SX6) (v : (Nat → Int32)) : gX6_keptMost (sX6_above S v) = gX6_keptMost S := id rfl
theorem nX6_keptBuilt_above (S : SX6) (v : (Nat → Int32)) : gX6_keptBuilt (sX6_above S v) = gX6_keptBuilt S := id rfl
theorem nX6_keptCost_above (S : SX6) (v : (Nat → Int32)) : gX6_keptCost (sX6_above S v) = gX6_keptCost S := id rfl
theorem nX6_keptCredit_above (S : SX6) (v : (Nat → Int32)) : gX6_keptCredit (sX6_above S v) = gX6_keptCredit S := id rfl
theorem nX6_keptLowest_above (S : SX6) (v : (Nat → Int32)) : gX6_keptLowest (sX6_above S v) = gX6_keptLowest S := id rfl
theorem nX6_keptLogMany_above (S : SX6) (v : (Nat → Int32)) : gX6_keptLogMany (sX6_above S v) = gX6_keptLogMany S := id rfl
theorem nX6_keptSeen_above (S : SX6) (v : (Nat → Int32)) : gX6_keptSeen (sX6_above S v) = gX6_keptSeen S := id rfl
theorem nX6_keptLeft_above (S : SX6) (v : (Nat → Int32)) : gX6_keptLeft (sX6_above S v) = gX6_keptLeft S := id rfl
theorem nX6_keptRight_above (S : SX6) (v : (Nat → Int32)) : gX6_keptRight (sX6_above S v) = gX6_keptRight S := id rfl
theorem nX6_keptAbove_above (S : SX6) (v : (Nat → Int32)) : gX6_keptAbove (sX6_above S v) = gX6_keptAbove S := id rfl
theorem nX6_keptThere_above (S : SX6) (v : (Nat → Int32)) : gX6_keptThere (sX6_above S v) = gX6_keptThere S := id rfl
theorem nX6_keptKinds_above (S : SX6) (v : (Nat → Int32)) : gX6_keptKinds (sX6_above S v) = gX6_keptKinds S := id rfl
theorem nX6_keptValues_above (S : SX6) (v : (Nat → Int32)) : gX6_keptValues (sX6_above S v) = gX6_keptValues S := id rfl
theorem nX6_keptLog_above (S : SX6) (v : (Nat → Int32)) : gX6_keptLog (sX6_above S v) = gX6_keptLog S := id rfl
theorem nX6_keptSights_above (S : SX6) (v : (Nat → Int32)) : gX6_keptSights (sX6_above S v) = gX6_keptSights S := id rfl
theorem nX6_hash_above (S : SX6) (v : (Nat → Int32)) : gX6_hash (sX6_above S v) = gX6_hash S := id rfl
theorem nX6_page_there (S : SX6) (v : (Nat → Int32)) : gX6_page (sX6_there S v) = gX6_page S := id rfl
theorem nX6_pageMany_there (S : SX6) (v : (Nat → Int32)) : gX6_pageMany (sX6_there S v) = gX6_pageMany S := id rfl
theorem nX6_left_there (S : SX6) (v : (Nat → Int32)) : gX6_left (sX6_there S v) = gX6_left S := id rfl
theorem nX6_right_there (S : SX6) (v : (Nat → Int32)) : gX6_right (sX6_there S v) = gX6_right S := id rfl
theorem nX6_above_there (S : SX6) (v : (Nat → Int32)) : gX6_above (sX6_there S v) = gX6_above S := id rfl
theorem nX6_there_there (S : SX6) (v : (Nat → Int32)) : gX6_there (sX6_there S v) = v := id rfl
theorem nX6_root_there (S : SX6) (v : (Nat → Int32)) : gX6_root (sX6_there S v) = gX6_root S := id rfl
theorem nX6_many_there (S : SX6) (v : (Nat → Int32)) : gX6_many (sX6_there S v) = gX6_many S := id rfl
theorem nX6_most_there (S : SX6) (v : (Nat → Int32)) : gX6_most (sX6_there S v) = gX6_most S := id rfl
theorem nX6_builtNow_there (S : SX6) (v : (Nat → Int32)) : gX6_builtNow (sX6_there S v) = gX6_builtNow S := id rfl
theorem nX6_built_there (S : SX6) (v : (Nat → Int32)) : gX6_built (sX6_there S v) = gX6_built S := id rfl
theorem nX6_cost_there (S : SX6) (v : (Nat → Int32)) : gX6_cost (sX6_there S v) = gX6_cost S := id rfl
theorem nX6_kinds_there (S : SX6) (v : (Nat → Int32)) : gX6_kinds (sX6_there S v) = gX6_kinds S := id rfl
theorem nX6_values_there (S : SX6) (v : (Nat → Int32)) : gX6_values (sX6_there S v) = gX6_values S := id rfl
theorem nX6_ratioA_there (S : SX6) (v : (Nat → Int32)) : gX6_ratioA (sX6_there S v) = gX6_ratioA S := id rfl
theorem nX6_ratioB_there (S : SX6) (v : (Nat → Int32)) : gX6_ratioB (sX6_there S v) = gX6_ratioB S := id rfl
theorem nX6_thenA_there (S : SX6) (v : (Nat → Int32)) : gX6_thenA (sX6_there S v) = gX6_thenA S := id rfl
theorem nX6_thenB_there (S : SX6) (v : (Nat → Int32)) : gX6_thenB (sX6_there S v) = gX6_thenB S := id rfl
theorem nX6_fee_there (S : SX6) (v : (Nat → Int32)) : gX6_fee (sX6_there S v) = gX6_fee S := id rfl
theorem nX6_credit_there (S : SX6) (v : (Nat → Int32)) : gX6_credit (sX6_there S v) = gX6_credit S := id rfl
theorem nX6_lowest_there (S : SX6) (v : (Nat → Int32)) : gX6_lowest (sX6_there S v) = gX6_lowest S := id rfl
theorem nX6_log_there (S : SX6) (v : (Nat → Int32)) : gX6_log (sX6_there S v) = gX6_log S := id rfl
theorem nX6_logMany_there (S : SX6) (v : (Nat → Int32)) : gX6_logMany (sX6_there S v) = gX6_logMany S := id rfl
theorem nX6_shelvesRead_there (S : SX6) (v : (Nat → Int32)) : gX6_shelvesRead (sX6_there S v) = gX6_shelvesRead S := id rfl
theorem nX6_row_there (S : SX6) (v : (Nat → Int32)) : gX6_row (sX6_there S v) = gX6_row S := id rfl
theorem nX6_spanLow_there (S : SX6) (v : (Nat → Int32)) : gX6_spanLow (sX6_there S v) = gX6_spanLow S := id rfl
theorem nX6_spanHigh_there (S : SX6) (v : (Nat → Int32)) : gX6_spanHigh (sX6_there S v) = gX6_spanHigh S := id rfl
theorem nX6_spanOn_there (S : SX6) (v : (Nat → Int32)) : gX6_spanOn (sX6_there S v) = gX6_spanOn S := id rfl
theorem nX6_seenMany_there (S : SX6) (v : (Nat → Int32)) : gX6_seenMany (sX6_there S v) = gX6_seenMany S := id rfl
theorem nX6_sights_there (S : SX6) (v : (Nat → Int32)) : gX6_sights (sX6_there S v) = gX6_sights S := id rfl
theorem nX6_seedNow_there (S : SX6) (v : (Nat → Int32)) : gX6_seedNow (sX6_there S v) = gX6_seedNow S := id rfl
theorem nX6_keptShelf_there (S : SX6) (v : (Nat → Int32)) : gX6_keptShelf (sX6_there S v) = gX6_keptShelf S := id rfl
theorem nX6_keptRoot_there (S : SX6) (v : (Nat → Int32)) : gX6_keptRoot (sX6_there S v) = gX6_keptRoot S := id rfl
theorem nX6_keptMany_there (S : SX6) (v : (Nat → Int32)) : gX6_keptMany (sX6_there S v) = gX6_keptMany S := id rfl
theorem nX6_keptMost_there (S : SX6) (v : (Nat → Int32)) : gX6_keptMost (sX6_there S v) = gX6_keptMost S := id rfl
theorem nX6_keptBuilt_there (S : SX6) (v : (Nat → Int32)) : gX6_keptBuilt (sX6_there S v) = gX6_keptBuilt S := id rfl
theorem nX6_keptCost_there (S : SX6) (v : (Nat → Int32)) : gX6_keptCost (sX6_there S v) = gX6_keptCost S := id rfl
theorem nX6_keptCredit_there (S : SX6) (v : (Nat → Int32)) : gX6_keptCredit (sX6_there S v) = gX6_keptCredit S := id rfl
theorem nX6_keptLowest_there (S : SX6) (v : (Nat → Int32)) : gX6_keptLowest (sX6_there S v) = gX6_keptLowest S := id rfl
theorem nX6_keptLogMany_there (S : SX6) (v : (Nat → Int32)) : gX6_keptLogMany (sX6_there S v) = gX6_keptLogMany S := id rfl
theorem nX6_keptSeen_there (S : SX6) (v : (Nat → Int32)) : gX6_keptSeen (sX6_there S v) = gX6_keptSeen S := id rfl
theorem nX6_keptLeft_there (S : SX6) (v : (Nat → Int32)) : gX6_keptLeft (sX6_there S v) = gX6_keptLeft S := id rfl
theorem nX6_keptRight_there (S : SX6) (v : (Nat → Int32)) : gX6_keptRight (sX6_there S v) = gX6_keptRight S := id rfl
theorem nX6_keptAbove_there (S : SX6) (v : (Nat → Int32)) : gX6_keptAbove (sX6_there S v) = gX6_keptAbove S := id rfl
theorem nX6_keptThere_there (S : SX6) (v : (Nat → Int32)) : gX6_keptThere (sX6_there S v) = gX6_keptThere S := id rfl
theorem nX6_keptKinds_there (S : SX6) (v : (Nat → Int32)) : gX6_keptKinds (sX6_there S v) = gX6_keptKinds S := id rfl
theorem nX6_keptValues_there (S : SX6) (v : (Nat → Int32)) : gX6_keptValues (sX6_there S v) = gX6_keptValues S := id rfl
theorem nX6_keptLog_there (S : SX6) (v : (Nat → Int32)) : gX6_keptLog (sX6_there S v) = gX6_keptLog S := id rfl
theorem nX6_keptSights_there (S : SX6) (v : (Nat → Int32)) : gX6_keptSights (sX6_there S v) = gX6_keptSights S := id rfl
theorem nX6_hash_there (S : SX6) (v : (Nat → Int32)) : gX6_hash (sX6_there S v) = gX6_hash S := id rfl
theorem nX6_page_root (S : SX6) (v : (Nat → Int32)) : gX6_page (sX6_root S v) = gX6_page S := id rfl
theorem nX6_pageMany_root (S : SX6) (v : (Nat → Int32)) : gX6_pageMany (sX6_root S v) = gX6_pageMany S := id rfl
theorem nX6_left_root (S : SX6) (v : (Nat → Int32)) : gX6_left (sX6_root S v) = gX6_left S := id rfl
theorem nX6_right_root (S : SX6) (v : (Nat → Int32)) : gX6_right (sX6_root S v) = gX6_right S := id rfl
theorem nX6_above_root (S : SX6) (v : (Nat → Int32)) : gX6_above (sX6_root S v) = gX6_above S := id rfl
theorem nX6_there_root (S : SX6) (v : (Nat → Int32)) : gX6_there (sX6_root S v) = gX6_there S := id rfl
theorem nX6_root_root (S : SX6) (v : (Nat → Int32)) : gX6_root (sX6_root S v) = v := id rfl
theorem nX6_many_root (S : SX6) (v : (Nat → Int32)) : gX6_many (sX6_root S v) = gX6_many S := id rfl
theorem nX6_most_root (S : SX6) (v : (Nat → Int32)) : gX6_most (sX6_root S v) = gX6_most S := id rfl
theorem nX6_builtNow_root (S : SX6) (v : (Nat → Int32)) : gX6_builtNow (sX6_root S v) = gX6_builtNow S := id rfl
theorem nX6_built_root (S : SX6) (v : (Nat → Int32)) : gX6_built (sX6_root S v) = gX6_built S := id rfl
theorem nX6_cost_root (S : SX6) (v : (Nat → Int32)) : gX6_cost (sX6_root S v) = gX6_cost S := id rfl
theorem nX6_kinds_root (S : SX6) (v : (Nat → Int32)) : gX6_kinds (sX6_root S v) = gX6_kinds S := id rfl
theorem nX6_values_root (S : SX6) (v : (Nat → Int32)) : gX6_values (sX6_root S v) = gX6_values S := id rfl
theorem nX6_ratioA_root (S : SX6) (v : (Nat → Int32)) : gX6_ratioA (sX6_root S v) = gX6_ratioA S := id rfl
theorem nX6_ratioB_root (S : SX6) (v : (Nat → Int32)) : gX6_ratioB (sX6_root S v) = gX6_ratioB S := id rfl
theorem nX6_thenA_root (S : SX6) (v : (Nat → Int32)) : gX6_thenA (sX6_root S v) = gX6_thenA S := id rfl
theorem nX6_thenB_root (S : SX6) (v : (Nat → Int32)) : gX6_thenB (sX6_root S v) = gX6_thenB S := id rfl
theorem nX6_fee_root (S : SX6) (v : (Nat → Int32)) : gX6_fee (sX6_root S v) = gX6_fee S := id rfl
theorem nX6_credit_root (S : SX6) (v : (Nat → Int32)) : gX6_credit (sX6_root S v) = gX6_credit S := id rfl
theorem nX6_lowest_root (S : SX6) (v : (Nat → Int32)) : gX6_lowest (sX6_root S v) = gX6_lowest S := id rfl
theorem nX6_log_root (S : SX6) (v : (Nat → Int32)) : gX6_log (sX6_root S v) = gX6_log S := id rfl
theorem nX6_logMany_root (S : SX6) (v : (Nat → Int32)) : gX6_logMany (sX6_root S v) = gX6_logMany S := id rfl
theorem nX6_shelvesRead_root (S : SX6) (v : (Nat → Int32)) : gX6_shelvesRead (sX6_root S v) = gX6_shelvesRead S := id rfl
theorem nX6_row_root (S : SX6) (v : (Nat → Int32)) : gX6_row (sX6_root S v) = gX6_row S := id rfl
theorem nX6_spanLow_root (S : SX6) (v : (Nat → Int32)) : gX6_spanLow (sX6_root S v) = gX6_spanLow S := id rfl
theorem nX6_spanHigh_root (S : SX6) (v : (Nat → Int32)) : gX6_spanHigh (sX6_root S v) = gX6_spanHigh S := id rfl
theorem nX6_spanOn_root (S : SX6) (v : (Nat → Int32)) : gX6_spanOn (sX6_root S v) = gX6_spanOn S := id rfl
theorem nX6_seenMany_root (S : SX6) (v : (Nat → Int32)) : gX6_seenMany (sX6_root S v) = gX6_seenMany S := id rfl
theorem nX6_sights_root (S : SX6) (v : (Nat → Int32)) : gX6_sights (sX6_root S v) = gX6_sights S := id rfl
theorem nX6_seedNow_root (S : SX6) (v : (Nat → Int32)) : gX6_seedNow (sX6_root S v) = gX6_seedNow S := id rfl
theorem nX6_keptShelf_root (S : SX6) (v : (Nat → Int32)) : gX6_keptShelf (sX6_root S v) = gX6_keptShelf S := id rfl
theorem nX6_keptRoot_root (S : SX6) (v : (Nat → Int32)) : gX6_keptRoot (sX6_root S v) = gX6_keptRoot S := id rfl
theorem nX6_keptMany_root (S : SX6) (v : (Nat → Int32)) : gX6_keptMany (sX6_root S v) = gX6_keptMany S := id rfl
theorem nX6_keptMost_root (S : SX6) (v : (Nat → Int32)) : gX6_keptMost (sX6_root S v) = gX6_keptMost S := id rfl
theorem nX6_keptBuilt_root (S : SX6) (v : (Nat → Int32)) : gX6_keptBuilt (sX6_root S v) = gX6_keptBuilt S := id rfl
theorem nX6_keptCost_root (S : SX6) (v : (Nat → Int32)) : gX6_keptCost (sX6_root S v) = gX6_keptCost S := id rfl
theorem nX6_keptCredit_root (S : SX6) (v : (Nat → Int32)) : gX6_keptCredit (sX6_root S v) = gX6_keptCredit S := id rfl
theorem nX6_keptLowest_root (S : SX6) (v : (Nat → Int32)) : gX6_keptLowest (sX6_root S v) = gX6_keptLowest S := id rfl
theorem nX6_keptLogMany_root (S : SX6) (v : (Nat → Int32)) : gX6_keptLogMany (sX6_root S v) = gX6_keptLogMany S := id rfl
theorem nX6_keptSeen_root (S : SX6) (v : (Nat → Int32)) : gX6_keptSeen (sX6_root S v) = gX6_keptSeen S := id rfl
theorem nX6_keptLeft_root (S : SX6) (v : (Nat → Int32)) : gX6_keptLeft (sX6_root S v) = gX6_keptLeft S := id rfl
theorem nX6_keptRight_root (S : SX6) (v : (Nat → Int32)) : gX6_keptRight (sX6_root S v) = gX6_keptRight S := id rfl
theorem nX6_keptAbove_root (S : SX6) (v : (Nat → Int32)) : gX6_keptAbove (sX6_root S v) = gX6_keptAbove S := id rfl
theorem nX6_keptThere_root (S : SX6) (v : (Nat → Int32)) : gX6_keptThere (sX6_root S v) = gX6_keptThere S := id rfl
theorem nX6_keptKinds_root (S : SX6) (v : (Nat → Int32)) : gX6_keptKinds (sX6_root S v) = gX6_keptKinds S := id rfl
theorem nX6_keptValues_root (S : SX6) (v : (Nat → Int32)) : gX6_keptValues (sX6_root S v) = gX6_keptValues S := id rfl
theorem nX6_keptLog_root (S : SX6) (v : (Nat → Int32)) : gX6_keptLog (sX6_root S v) = gX6_keptLog S := id rfl
theorem nX6_keptSights_root (S : SX6) (v : (Nat → Int32)) : gX6_keptSights (sX6_root S v) = gX6_keptSights S := id rfl
theorem nX6_hash_root (S : SX6) (v : (Nat → Int32)) : gX6_hash (sX6_root S v) = gX6_hash S := id rfl
theorem nX6_page_many (S : SX6) (v : (Nat → Int32)) : gX6_page (sX6_many S v) = gX6_page S := id rfl
theorem nX6_pageMany_many (S : SX6) (v : (Nat → Int32)) : gX6_pageMany (sX6_many S v) = gX6_pageMany S := id rfl
theorem nX6_left_many (S : SX6) (v : (Nat → Int32)) : gX6_left (sX6_many S v) = gX6_left S := id rfl
theorem nX6_right_many (S : SX6) (v : (Nat → Int32)) : gX6_right (sX6_many S v) = gX6_right S := id rfl
theorem nX6_above_many (S : SX6) (v : (Nat → Int32)) : gX6_above (sX6_many S v) = gX6_above S := id rfl
theorem nX6_there_many (S : SX6) (v : (Nat → Int32)) : gX6_there (sX6_many S v) = gX6_there S := id rfl
theorem nX6_root_many (S : SX6) (v : (Nat → Int32)) : gX6_root (sX6_many S v) = gX6_root S := id rfl
theorem nX6_many_many (S : SX6) (v : (Nat → Int32)) : gX6_many (sX6_many S v) = v := id rfl
theorem nX6_most_many (S : SX6) (v : (Nat → Int32)) : gX6_most (sX6_many S v) = gX6_most S := id rfl
theorem nX6_builtNow_many (S : SX6) (v : (Nat → Int32)) : gX6_builtNow (sX6_many S v) = gX6_builtNow S := id rfl
theorem nX6_built_many (S : SX6) (v : (Nat → Int32)) : gX6_built (sX6_many S v) = gX6_built S := id rfl
theorem nX6_cost_many (S : SX6) (v : (Nat → Int32)) : gX6_cost (sX6_many S v) = gX6_cost S := id rfl
theorem nX6_kinds_many (S : SX6) (v : (Nat → Int32)) : gX6_kinds (sX6_many S v) = gX6_kinds S := id rfl
theorem nX6_values_many (S : SX6) (v : (Nat → Int32)) : gX6_values (sX6_many S v) = gX6_values S := id rfl
theorem nX6_ratioA_many (S : SX6) (v : (Nat → Int32)) : gX6_ratioA (sX6_many S v) = gX6_ratioA S := id rfl
theorem nX6_ratioB_many (S : SX6) (v : (Nat → Int32)) : gX6_ratioB (sX6_many S v) = gX6_ratioB S := id rfl
theorem nX6_thenA_many (S : SX6) (v : (Nat → Int32)) : gX6_thenA (sX6_many S v) = gX6_thenA S := id rfl
theorem nX6_thenB_many (S : SX6) (v : (Nat → Int32)) : gX6_thenB (sX6_many S v) = gX6_thenB S := id rfl
theorem nX6_fee_many (S : SX6) (v : (Nat → Int32)) : gX6_fee (sX6_many S v) = gX6_fee S := id rfl
theorem nX6_credit_many (S : SX6) (v : (Nat → Int32)) : gX6_credit (sX6_many S v) = gX6_credit S := id rfl
theorem nX6_lowest_many (S : SX6) (v : (Nat → Int32)) : gX6_lowest (sX6_many S v) = gX6_lowest S := id rfl
theorem nX6_log_many (S : SX6) (v : (Nat → Int32)) : gX6_log (sX6_many S v) = gX6_log S := id rfl
theorem nX6_logMany_many (S : SX6) (v : (Nat → Int32)) : gX6_logMany (sX6_many S v) = gX6_logMany S := id rfl
theorem nX6_shelvesRead_many (S : SX6) (v : (Nat → Int32)) : gX6_shelvesRead (sX6_many S v) = gX6_shelvesRead S := id rfl
theorem nX6_row_many (S : SX6) (v : (Nat → Int32)) : gX6_row (sX6_many S v) = gX6_row S := id rfl
theorem nX6_spanLow_many (S : SX6) (v : (Nat → Int32)) : gX6_spanLow (sX6_many S v) = gX6_spanLow S := id rfl
theorem nX6_spanHigh_many (S : SX6) (v : (Nat → Int32)) : gX6_spanHigh (sX6_many S v) = gX6_spanHigh S := id rfl
theorem nX6_spanOn_many (S : SX6) (v : (Nat → Int32)) : gX6_spanOn (sX6_many S v) = gX6_spanOn S := id rfl
theorem nX6_seenMany_many (S : SX6) (v : (Nat → Int32)) : gX6_seenMany (sX6_many S v) = gX6_seenMany S := id rfl
theorem nX6_sights_many (S : SX6) (v : (Nat → Int32)) : gX6_sights (sX6_many S v) = gX6_sights S := id rfl
theorem nX6_seedNow_many (S : SX6) (v : (Nat → Int32)) : gX6_seedNow (sX6_many S v) = gX6_seedNow S := id rfl
theorem nX6_keptShelf_many (S : SX6) (v : (Nat → Int32)) : gX6_keptShelf (sX6_many S v) = gX6_keptShelf S := id rfl
theorem nX6_keptRoot_many (S : SX6) (v : (Nat → Int32)) : gX6_keptRoot (sX6_many S v) = gX6_keptRoot S := id rfl
theorem nX6_keptMany_many (S : SX6) (v : (Nat → Int32)) : gX6_keptMany (sX6_many S v) = gX6_keptMany S := id rfl
theorem nX6_keptMost_many (S : SX6) (v : (Nat → Int32)) : gX6_keptMost (sX6_many S v) = gX6_keptMost S := id rfl
theorem nX6_keptBuilt_many (S : SX6) (v : (Nat → Int32)) : gX6_keptBuilt (sX6_many S v) = gX6_keptBuilt S := id rfl
theorem nX6_keptCost_many (S : SX6) (v : (Nat → Int32)) : gX6_keptCost (sX6_many S v) = gX6_keptCost S := id rfl
theorem nX6_keptCredit_many (S : SX6) (v : (Nat → Int32)) : gX6_keptCredit (sX6_many S v) = gX6_keptCredit S := id rfl
theorem nX6_keptLowest_many (S : SX6) (v : (Nat → Int32)) : gX6_keptLowest (sX6_many S v) = gX6_keptLowest S := id rfl
theorem nX6_keptLogMany_many (S : SX6) (v : (Nat → Int32)) : gX6_keptLogMany (sX6_many S v) = gX6_keptLogMany S := id rfl
theorem nX6_keptSeen_many (S : SX6) (v : (Nat → Int32)) : gX6_keptSeen (sX6_many S v) = gX6_keptSeen S := id rfl
theorem nX6_keptLeft_many (S : SX6) (v : (Nat → Int32)) : gX6_keptLeft (sX6_many S v) = gX6_keptLeft S := id rfl
theorem nX6_keptRight_many (S : SX6) (v : (Nat → Int32)) : gX6_keptRight (sX6_many S v) = gX6_keptRight S := id rfl
theorem nX6_keptAbove_many (S : SX6) (v : (Nat → Int32)) : gX6_keptAbove (sX6_many S v) = gX6_keptAbove S := id rfl
theorem nX6_keptThere_many (S : SX6) (v : (Nat → Int32)) : gX6_keptThere (sX6_many S v) = gX6_keptThere S := id rfl
theorem nX6_keptKinds_many (S : SX6) (v : (Nat → Int32)) : gX6_keptKinds (sX6_many S v) = gX6_keptKinds S := id rfl
theorem nX6_keptValues_many (S : SX6) (v : (Nat → Int32)) : gX6_keptValues (sX6_many S v) = gX6_keptValues S := id rfl
theorem nX6_keptLog_many (S : SX6) (v : (Nat → Int32)) : gX6_keptLog (sX6_many S v) = gX6_keptLog S := id rfl
theorem nX6_keptSights_many (S : SX6) (v : (Nat → Int32)) : gX6_keptSights (sX6_many S v) = gX6_keptSights S := id rfl
theorem nX6_hash_many (S : SX6) (v : (Nat → Int32)) : gX6_hash (sX6_many S v) = gX6_hash S := id rfl
theorem nX6_page_most (S : SX6) (v : (Nat → Int32)) : gX6_page (sX6_most S v) = gX6_page S := id rfl
theorem nX6_pageMany_most (S : SX6) (v : (Nat → Int32)) : gX6_pageMany (sX6_most S v) = gX6_pageMany S := id rfl
theorem nX6_left_most (S : SX6) (v : (Nat → Int32)) : gX6_left (sX6_most S v) = gX6_left S := id rfl
theorem nX6_right_most (S : SX6) (v : (Nat → Int32)) : gX6_right (sX6_most S v) = gX6_right S := id rfl
theorem nX6_above_most (S : SX6) (v : (Nat → Int32)) : gX6_above (sX6_most S v) = gX6_above S := id rfl
theorem nX6_there_most (S : SX6) (v : (Nat → Int32)) : gX6_there (sX6_most S v) = gX6_there S := id rfl
theorem nX6_root_most (S : SX6) (v : (Nat → Int32)) : gX6_root (sX6_most S v) = gX6_root S := id rfl
theorem nX6_many_most (S : SX6) (v : (Nat → Int32)) : gX6_many (sX6_most S v) = gX6_many S := id rfl
theorem nX6_most_most (S : SX6) (v : (Nat → Int32)) : gX6_most (sX6_most S v) = v := id rfl
theorem nX6_builtNow_most (S : SX6) (v : (Nat → Int32)) : gX6_builtNow (sX6_most S v) = gX6_builtNow S := id rfl
theorem nX6_built_most (S : SX6) (v : (Nat → Int32)) : gX6_built (sX6_most S v) = gX6_built S := id rfl
theorem nX6_cost_most (S : SX6) (v : (Nat → Int32)) : gX6_cost (sX6_most S v) = gX6_cost S := id rfl
theorem nX6_kinds_most (S : SX6) (v : (Nat → Int32)) : gX6_kinds (sX6_most S v) = gX6_kinds S := id rfl
theorem nX6_values_most (S : SX6) (v : (Nat → Int32)) : gX6_values (sX6_most S v) = gX6_values S := id rfl
theorem nX6_ratioA_most (S : SX6) (v : (Nat → Int32)) : gX6_ratioA (sX6_most S v) = gX6_ratioA S := id rfl
theorem nX6_ratioB_most (S : SX6) (v : (Nat → Int32)) : gX6_ratioB (sX6_most S v) = gX6_ratioB S := id rfl
theorem nX6_thenA_most (S : SX6) (v : (Nat → Int32)) : gX6_thenA (sX6_most S v) = gX6_thenA S := id rfl
theorem nX6_thenB_most (S : SX6) (v : (Nat → Int32)) : gX6_thenB (sX6_most S v) = gX6_thenB S := id rfl
theorem nX6_fee_most (S : SX6) (v : (Nat → Int32)) : gX6_fee (sX6_most S v) = gX6_fee S := id rfl
theorem nX6_credit_most (S : SX6) (v : (Nat → Int32)) : gX6_credit (sX6_most S v) = gX6_credit S := id rfl
theorem nX6_lowest_most (S : SX6) (v : (Nat → Int32)) : gX6_lowest (sX6_most S v) = gX6_lowest S := id rfl
theorem nX6_log_most (S : SX6) (v : (Nat → Int32)) : gX6_log (sX6_most S v) = gX6_log S := id rfl
theorem nX6_logMany_most (S : SX6) (v : (Nat → Int32)) : gX6_logMany (sX6_most S v) = gX6_logMany S := id rfl
theorem nX6_shelvesRead_most (S : SX6) (v : (Nat → Int32)) : gX6_shelvesRead (sX6_most S v) = gX6_shelvesRead S := id rfl
theorem nX6_row_most (S : SX6) (v : (Nat → Int32)) : gX6_row (sX6_most S v) = gX6_row S := id rfl
theorem nX6_spanLow_most (S : SX6) (v : (Nat → Int32)) : gX6_spanLow (sX6_most S v) = gX6_spanLow S := id rfl
theorem nX6_spanHigh_most (S : SX6) (v : (Nat → Int32)) : gX6_spanHigh (sX6_most S v) = gX6_spanHigh S := id rfl
theorem nX6_spanOn_most (S : SX6) (v : (Nat → Int32)) : gX6_spanOn (sX6_most S v) = gX6_spanOn S := id rfl
theorem nX6_seenMany_most (S : SX6) (v : (Nat → Int32)) : gX6_seenMany (sX6_most S v) = gX6_seenMany S := id rfl
theorem nX6_sights_most (S : SX6) (v : (Nat → Int32)) : gX6_sights (sX6_most S v) = gX6_sights S := id rfl
theorem nX6_seedNow_most (S : SX6) (v : (Nat → Int32)) : gX6_seedNow (sX6_most S v) = gX6_seedNow S := id rfl
theorem nX6_keptShelf_most (S : SX6) (v : (Nat → Int32)) : gX6_keptShelf (sX6_most S v) = gX6_keptShelf S := id rfl
theorem nX6_keptRoot_most (S : SX6) (v : (Nat → Int32)) : gX6_keptRoot (sX6_most S v) = gX6_keptRoot S := id rfl
theorem nX6_keptMany_most (S : SX6) (v : (Nat → Int32)) : gX6_keptMany (sX6_most S v) = gX6_keptMany S := id rfl
theorem nX6_keptMost_most (S : SX6) (v : (Nat → Int32)) : gX6_keptMost (sX6_most S v) = gX6_keptMost S := id rfl
theorem nX6_keptBuilt_most (S : SX6) (v : (Nat → Int32)) : gX6_keptBuilt (sX6_most S v) = gX6_keptBuilt S := id rfl
theorem nX6_keptCost_most (S : SX6) (v : (Nat → Int32)) : gX6_keptCost (sX6_most S v) = gX6_keptCost S := id rfl
theorem nX6_keptCredit_most (S : SX6) (v : (Nat → Int32)) : gX6_keptCredit (sX6_most S v) = gX6_keptCredit S := id rfl
theorem nX6_keptLowest_most (S : SX6) (v : (Nat → Int32)) : gX6_keptLowest (sX6_most S v) = gX6_keptLowest S := id rfl
theorem nX6_keptLogMany_most (S : SX6) (v : (Nat → Int32)) : gX6_keptLogMany (sX6_most S v) = gX6_keptLogMany S := id rfl
theorem nX6_keptSeen_most (S : SX6) (v : (Nat → Int32)) : gX6_keptSeen (sX6_most S v) = gX6_keptSeen S := id rfl
theorem nX6_keptLeft_most (S : SX6) (v : (Nat → Int32)) : gX6_keptLeft (sX6_most S v) = gX6_keptLeft S := id rfl
theorem nX6_keptRight_most (S : SX6) (v : (Nat → Int32)) : gX6_keptRight (sX6_most S v) = gX6_keptRight S := id rfl
theorem nX6_keptAbove_most (S : SX6) (v : (Nat → Int32)) : gX6_keptAbove (sX6_most S v) = gX6_keptAbove S := id rfl
theorem nX6_keptThere_most (S : SX6) (v : (Nat → Int32)) : gX6_keptThere (sX6_most S v) = gX6_keptThere S := id rfl
theorem nX6_keptKinds_most (S : SX6) (v : (Nat → Int32)) : gX6_keptKinds (sX6_most S v) = gX6_keptKinds S := id rfl
theorem nX6_keptValues_most (S : SX6) (v : (Nat → Int32)) : gX6_keptValues (sX6_most S v) = gX6_keptValues S := id rfl
theorem nX6_keptLog_most (S : SX6) (v : (Nat → Int32)) : gX6_keptLog (sX6_most S v) = gX6_keptLog S := id rfl
theorem nX6_keptSights_most (S : SX6) (v : (Nat → Int32)) : gX6_keptSights (sX6_most S v) = gX6_keptSights S := id rfl
theorem nX6_hash_most (S : SX6) (v : (Nat → Int32)) : gX6_hash (sX6_most S v) = gX6_hash S := id rfl
theorem nX6_page_built (S : SX6) (v : (Nat → Int32)) : gX6_page (sX6_built S v) = gX6_page S := id rfl
theorem nX6_pageMany_built (S : SX6) (v : (Nat → Int32)) : gX6_pageMany (sX6_built S v) = gX6_pageMany S := id rfl
theorem nX6_left_built (S : SX6) (v : (Nat → Int32)) : gX6_left (sX6_built S v) = gX6_left S := id rfl
theorem nX6_right_built (S : SX6) (v : (Nat → Int32)) : gX6_right (sX6_built S v) = gX6_right S := id rfl
theorem nX6_above_built (S : SX6) (v : (Nat → Int32)) : gX6_above (sX6_built S v) = gX6_above S := id rfl
theorem nX6_there_built (S : SX6) (v : (Nat → Int32)) : gX6_there (sX6_built S v) = gX6_there S := id rfl
theorem nX6_root_built (S : SX6) (v : (Nat → Int32)) : gX6_root (sX6_built S v) = gX6_root S := id rfl
theorem nX6_many_built (S : SX6) (v : (Nat → Int32)) : gX6_many (sX6_built S v) = gX6_many S := id rfl
theorem nX6_most_built (S : SX6) (v : (Nat → Int32)) : gX6_most (sX6_built S v) = gX6_most S := id rfl
theorem nX6_builtNow_built (S : SX6) (v : (Nat → Int32)) : gX6_builtNow (sX6_built S v) = gX6_builtNow S := id rfl
theorem nX6_built_built (S : SX6) (v : (Nat → Int32)) : gX6_built (sX6_built S v) = v := id rfl
theorem nX6_cost_built (S : SX6) (v : (Nat → Int32)) : gX6_cost (sX6_built S v) = gX6_cost S := id rfl
theorem nX6_kinds_built (S : SX6) (v : (Nat → Int32)) : gX6_kinds (sX6_built S v) = gX6_kinds S := id rfl
theorem nX6_values_built (S : SX6) (v : (Nat → Int32)) : gX6_values (sX6_built S v) = gX6_values S := id rfl
theorem nX6_ratioA_built (S : SX6) (v : (Nat → Int32)) : gX6_ratioA (sX6_built S v) = gX6_ratioA S := id rfl
theorem nX6_ratioB_built (S : SX6) (v : (Nat → Int32)) : gX6_ratioB (sX6_built S v) = gX6_ratioB S := id rfl
theorem nX6_thenA_built (S : SX6) (v : (Nat → Int32)) : gX6_thenA (sX6_built S v) = gX6_thenA S := id rfl
theorem nX6_thenB_built (S : SX6) (v : (Nat → Int32)) : gX6_thenB (sX6_built S v) = gX6_thenB S := id rfl
theorem nX6_fee_built (S : SX6) (v : (Nat → Int32)) : gX6_fee (sX6_built S v) = gX6_fee S := id rfl
theorem nX6_credit_built (S : SX6) (v : (Nat → Int32)) : gX6_credit (sX6_built S v) = gX6_credit S := id rfl
theorem nX6_lowest_built (S : SX6) (v : (Nat → Int32)) : gX6_lowest (sX6_built S v) = gX6_lowest S := id rfl
theorem nX6_log_built (S : SX6) (v : (Nat → Int32)) : gX6_log (sX6_built S v) = gX6_log S := id rfl
theorem nX6_logMany_built (S : SX6) (v : (Nat → Int32)) : gX6_logMany (sX6_built S v) = gX6_logMany S := id rfl
theorem nX6_shelvesRead_built (S : SX6) (v : (Nat → Int32)) : gX6_shelvesRead (sX6_built S v) = gX6_shelvesRead S := id rfl
theorem nX6_row_built (S : SX6) (v : (Nat → Int32)) : gX6_row (sX6_built S v) = gX6_row S := id rfl
theorem nX6_spanLow_built (S : SX6) (v : (Nat → Int32)) : gX6_spanLow (sX6_built S v) = gX6_spanLow S := id rfl
theorem nX6_spanHigh_built (S : SX6) (v : (Nat → Int32)) : gX6_spanHigh (sX6_built S v) = gX6_spanHigh S := id rfl
theorem nX6_spanOn_built (S : SX6) (v : (Nat → Int32)) : gX6_spanOn (sX6_built S v) = gX6_spanOn S := id rfl
theorem nX6_seenMany_built (S : SX6) (v : (Nat → Int32)) : gX6_seenMany (sX6_built S v) = gX6_seenMany S := id rfl
theorem nX6_sights_built (S : SX6) (v : (Nat → Int32)) : gX6_sights (sX6_built S v) = gX6_sights S := id rfl
theorem nX6_seedNow_built (S : SX6) (v : (Nat → Int32)) : gX6_seedNow (sX6_built S v) = gX6_seedNow S := id rfl
theorem nX6_keptShelf_built (S : SX6) (v : (Nat → Int32)) : gX6_keptShelf (sX6_built S v) = gX6_keptShelf S := id rfl
theorem nX6_keptRoot_built (S : SX6) (v : (Nat → Int32)) : gX6_keptRoot (sX6_built S v) = gX6_keptRoot S := id rfl
theorem nX6_keptMany_built (S : SX6) (v : (Nat → Int32)) : gX6_keptMany (sX6_built S v) = gX6_keptMany S := id rfl
theorem nX6_keptMost_built (S : SX6) (v : (Nat → Int32)) : gX6_keptMost (sX6_built S v) = gX6_keptMost S := id rfl
theorem nX6_keptBuilt_built (S : SX6) (v : (Nat → Int32)) : gX6_keptBuilt (sX6_built S v) = gX6_keptBuilt S := id rfl
theorem nX6_keptCost_built (S : SX6) (v : (Nat → Int32)) : gX6_keptCost (sX6_built S v) = gX6_keptCost S := id rfl
theorem nX6_keptCredit_built (S : SX6) (v : (Nat → Int32)) : gX6_keptCredit (sX6_built S v) = gX6_keptCredit S := id rfl
theorem nX6_keptLowest_built (S : SX6) (v : (Nat → Int32)) : gX6_keptLowest (sX6_built S v) = gX6_keptLowest S := id rfl
theorem nX6_keptLogMany_built (S : SX6) (v : (Nat → Int32)) : gX6_keptLogMany (sX6_built S v) = gX6_keptLogMany S := id rfl
theorem nX6_keptSeen_built (S : SX6) (v : (Nat → Int32)) : gX6_keptSeen (sX6_built S v) = gX6_keptSeen S := id rfl
theorem nX6_keptLeft_built (S : SX6) (v : (Nat → Int32)) : gX6_keptLeft (sX6_built S v) = gX6_keptLeft S := id rfl
theorem nX6_keptRight_built (S : SX6) (v : (Nat → Int32)) : gX6_keptRight (sX6_built S v) = gX6_keptRight S := id rfl
theorem nX6_keptAbove_built (S : SX6) (v : (Nat → Int32)) : gX6_keptAbove (sX6_built S v) = gX6_keptAbove S := id rfl
theorem nX6_keptThere_built (S : SX6) (v : (Nat → Int32)) : gX6_keptThere (sX6_built S v) = gX6_keptThere S := id rfl
theorem nX6_keptKinds_built (S : SX6) (v : (Nat → Int32)) : gX6_keptKinds (sX6_built S v) = gX6_keptKinds S := id rfl
theorem nX6_keptValues_built (S : SX6) (v : (Nat → Int32)) : gX6_keptValues (sX6_built S v) = gX6_keptValues S := id rfl
theorem nX6_keptLog_built (S : SX6) (v : (Nat → Int32)) : gX6_keptLog (sX6_built S v) = gX6_keptLog S := id rfl
theorem nX6_keptSights_built (S : SX6) (v : (Nat → Int32)) : gX6_keptSights (sX6_built S v) = gX6_keptSights S := id rfl
theorem nX6_hash_built (S : SX6) (v : (Nat → Int32)) : gX6_hash (sX6_built S v) = gX6_hash S := id rfl
theorem nX6_page_cost (S : SX6) (v : (Nat → Int32)) : gX6_page (sX6_cost S v) = gX6_page S := id rfl
theorem nX6_pageMany_cost (S : SX6) (v : (Nat → Int32)) : gX6_pageMany (sX6_cost S v) = gX6_pageMany S := id rfl
theorem nX6_left_cost (S : SX6) (v : (Nat → Int32)) : gX6_left (sX6_cost S v) = gX6_left S := id rfl
theorem nX6_right_cost (S : SX6) (v : (Nat → Int32)) : gX6_right (sX6_cost S v) = gX6_right S := id rfl
theorem nX6_above_cost (S : SX6) (v : (Nat → Int32)) : gX6_above (sX6_cost S v) = gX6_above S := id rfl
theorem nX6_there_cost (S : SX6) (v : (Nat → Int32)) : gX6_there (sX6_cost S v) = gX6_there S := id rfl
theorem nX6_root_cost (S : SX6) (v : (Nat → Int32)) : gX6_root (sX6_cost S v) = gX6_root S := id rfl
theorem nX6_many_cost (S : SX6) (v : (Nat → Int32)) : gX6_many (sX6_cost S v) = gX6_many S := id rfl
theorem nX6_most_cost (S : SX6) (v : (Nat → Int32)) : gX6_most (sX6_cost S v) = gX6_most S := id rfl
theorem nX6_builtNow_cost (S : SX6) (v : (Nat → Int32)) : gX6_builtNow (sX6_cost S v) = gX6_builtNow S := id rfl
theorem nX6_built_cost (S : SX6) (v : (Nat → Int32)) : gX6_built (sX6_cost S v) = gX6_built S := id rfl
theorem nX6_cost_cost (S : SX6) (v : (Nat → Int32)) : gX6_cost (sX6_cost S v) = v := id rfl
theorem nX6_kinds_cost (S : SX6) (v : (Nat → Int32)) : gX6_kinds (sX6_cost S v) = gX6_kinds S := id rfl
theorem nX6_values_cost (S : SX6) (v : (Nat → Int32)) : gX6_values (sX6_cost S v) = gX6_values S := id rfl
theorem nX6_ratioA_cost (S : SX6) (v : (Nat → Int32)) : gX6_ratioA (sX6_cost S v) = gX6_ratioA S := id rfl
theorem nX6_ratioB_cost (S : SX6) (v : (Nat → Int32)) : gX6_ratioB (sX6_cost S v) = gX6_ratioB S := id rfl
theorem nX6_thenA_cost (S : SX6) (v : (Nat → Int32)) : gX6_thenA (sX6_cost S v) = gX6_thenA S := id rfl
theorem nX6_thenB_cost (S : SX6) (v : (Nat → Int32)) : gX6_thenB (sX6_cost S v) = gX6_thenB S := id rfl
theorem nX6_fee_cost (S : SX6) (v : (Nat → Int32)) : gX6_fee (sX6_cost S v) = gX6_fee S := id rfl
theorem nX6_credit_cost (S : SX6) (v : (Nat → Int32)) : gX6_credit (sX6_cost S v) = gX6_credit S := id rfl
theorem nX6_lowest_cost (S : SX6) (v : (Nat → Int32)) : gX6_lowest (sX6_cost S v) = gX6_lowest S := id rfl
theorem nX6_log_cost (S : SX6) (v : (Nat → Int32)) : gX6_log (sX6_cost S v) = gX6_log S := id rfl
theorem nX6_logMany_cost (S : SX6) (v : (Nat → Int32)) : gX6_logMany (sX6_cost S v) = gX6_logMany S := id rfl
theorem nX6_shelvesRead_cost (S : SX6) (v : (Nat → Int32)) : gX6_shelvesRead (sX6_cost S v) = gX6_shelvesRead S := id rfl
theorem nX6_row_cost (S : SX6) (v : (Nat → Int32)) : gX6_row (sX6_cost S v) = gX6_row S := id rfl
theorem nX6_spanLow_cost (S : SX6) (v : (Nat → Int32)) : gX6_spanLow (sX6_cost S v) = gX6_spanLow S := id rfl
theorem nX6_spanHigh_cost (S : SX6) (v : (Nat → Int32)) : gX6_spanHigh (sX6_cost S v) = gX6_spanHigh S := id rfl
theorem nX6_spanOn_cost (S : SX6) (v : (Nat → Int32)) : gX6_spanOn (sX6_cost S v) = gX6_spanOn S := id rfl
theorem nX6_seenMany_cost (S : SX6) (v : (Nat → Int32)) : gX6_seenMany (sX6_cost S v) = gX6_seenMany S := id rfl
theorem nX6_sights_cost (S : SX6) (v : (Nat → Int32)) : gX6_sights (sX6_cost S v) = gX6_sights S := id rfl
theorem nX6_seedNow_cost (S : SX6) (v : (Nat → Int32)) : gX6_seedNow (sX6_cost S v) = gX6_seedNow S := id rfl
theorem nX6_keptShelf_cost (S : SX6) (v : (Nat → Int32)) : gX6_keptShelf (sX6_cost S v) = gX6_keptShelf S := id rfl
theorem nX6_keptRoot_cost (S : SX6) (v : (Nat → Int32)) : gX6_keptRoot (sX6_cost S v) = gX6_keptRoot S := id rfl
theorem nX6_keptMany_cost (S : SX6) (v : (Nat → Int32)) : gX6_keptMany (sX6_cost S v) = gX6_keptMany S := id rfl
theorem nX6_keptMost_cost (S : SX6) (v : (Nat → Int32)) : gX6_keptMost (sX6_cost S v) = gX6_keptMost S := id rfl
theorem nX6_keptBuilt_cost (S : SX6) (v : (Nat → Int32)) : gX6_keptBuilt (sX6_cost S v) = gX6_keptBuilt S := id rfl
theorem nX6_keptCost_cost (S : SX6) (v : (Nat → Int32)) : gX6_keptCost (sX6_cost S v) = gX6_keptCost S := id rfl
theorem nX6_keptCredit_cost (S : SX6) (v : (Nat → Int32)) : gX6_keptCredit (sX6_cost S v) = gX6_keptCredit S := id rfl
theorem nX6_keptLowest_cost (S : SX6) (v : (Nat → Int32)) : gX6_keptLowest (sX6_cost S v) = gX6_keptLowest S := id rfl
theorem nX6_keptLogMany_cost (S : SX6) (v : (Nat → Int32)) : gX6_keptLogMany (sX6_cost S v) = gX6_keptLogMany S := id rfl
theorem nX6_keptSeen_cost (S : SX6) (v : (Nat → Int32)) : gX6_keptSeen (sX6_cost S v) = gX6_keptSeen S := id rfl
theorem nX6_keptLeft_cost (S : SX6) (v : (Nat → Int32)) : gX6_keptLeft (sX6_cost S v) = gX6_keptLeft S := id rfl
theorem nX6_keptRight_cost (S : SX6) (v : (Nat → Int32)) : gX6_keptRight (sX6_cost S v) = gX6_keptRight S := id rfl
theorem nX6_keptAbove_cost (S : SX6) (v : (Nat → Int32)) : gX6_keptAbove (sX6_cost S v) = gX6_keptAbove S := id rfl
theorem nX6_keptThere_cost (S : SX6) (v : (Nat → Int32)) : gX6_keptThere (sX6_cost S v) = gX6_keptThere S := id rfl
theorem nX6_keptKinds_cost (S : SX6) (v : (Nat → Int32)) : gX6_keptKinds (sX6_cost S v) = gX6_keptKinds S := id rfl
theorem nX6_keptValues_cost (S : SX6) (v : (Nat → Int32)) : gX6_keptValues (sX6_cost S v) = gX6_keptValues S := id rfl
theorem nX6_keptLog_cost (S : SX6) (v : (Nat → Int32)) : gX6_keptLog (sX6_cost S v) = gX6_keptLog S := id rfl
theorem nX6_keptSights_cost (S : SX6) (v : (Nat → Int32)) : gX6_keptSights (sX6_cost S v) = gX6_keptSights S := id rfl
theorem nX6_hash_cost (S : SX6) (v : (Nat → Int32)) : gX6_hash (sX6_cost S v) = gX6_hash S := id rfl
theorem nX6_page_kinds (S : SX6) (v : (Nat → Int32)) : gX6_page (sX6_kinds S v) = gX6_page S := id rfl
theorem nX6_pageMany_kinds (S : SX6) (v : (Nat → Int32)) : gX6_pageMany (sX6_kinds S v) = gX6_pageMany S := id rfl
theorem nX6_left_kinds (S : SX6) (v : (Nat → Int32)) : gX6_left (sX6_kinds S v) = gX6_left S := id rfl
theorem nX6_right_kinds (S : SX6) (v : (Nat → Int32)) : gX6_right (sX6_kinds S v) = gX6_right S := id rfl
theorem nX6_above_kinds (S : SX6) (v : (Nat → Int32)) : gX6_above (sX6_kinds S v) = gX6_above S := id rfl
theorem nX6_there_kinds (S : SX6) (v : (Nat → Int32)) : gX6_there (sX6_kinds S v) = gX6_there S := id rfl
theorem nX6_root_kinds (S : SX6) (v : (Nat → Int32)) : gX6_root (sX6_kinds S v) = gX6_root S := id rfl
theorem nX6_many_kinds (S : SX6) (v : (Nat → Int32)) : gX6_many (sX6_kinds S v) = gX6_many S := id rfl
theorem nX6_most_kinds (S : SX6) (v : (Nat → Int32)) : gX6_most (sX6_kinds S v) = gX6_most S := id rfl
theorem nX6_builtNow_kinds (S : SX6) (v : (Nat → Int32)) : gX6_builtNow (sX6_kinds S v) = gX6_builtNow S := id rfl
theorem nX6_built_kinds (S : SX6) (v : (Nat → Int32)) : gX6_built (sX6_kinds S v) = gX6_built S := id rfl
theorem nX6_cost_kinds (S : SX6) (v : (Nat → Int32)) : gX6_cost (sX6_kinds S v) = gX6_cost S := id rfl
theorem nX6_kinds_kinds (S : SX6) (v : (Nat → Int32)) : gX6_kinds (sX6_kinds S v) = v := id rfl
theorem nX6_values_kinds (S : SX6) (v : (Nat → Int32)) : gX6_values (sX6_kinds S v) = gX6_values S := id rfl
theorem nX6_ratioA_kinds (S : SX6) (v : (Nat → Int32)) : gX6_ratioA (sX6_kinds S v) = gX6_ratioA S := id rfl
theorem nX6_ratioB_kinds (S : SX6) (v : (Nat → Int32)) : gX6_ratioB (sX6_kinds S v) = gX6_ratioB S := id rfl
theorem nX6_thenA_kinds (S : SX6) (v : (Nat → Int32)) : gX6_thenA (sX6_kinds S v) = gX6_thenA S := id rfl
theorem nX6_thenB_kinds (S : SX6) (v : (Nat → Int32)) : gX6_thenB (sX6_kinds S v) = gX6_thenB S := id rfl
theorem nX6_fee_kinds (S : SX6) (v : (Nat → Int32)) : gX6_fee (sX6_kinds S v) = gX6_fee S := id rfl
theorem nX6_credit_kinds (S : SX6) (v : (Nat → Int32)) : gX6_credit (sX6_kinds S v) = gX6_credit S := id rfl
theorem nX6_lowest_kinds (S : SX6) (v : (Nat → Int32)) : gX6_lowest (sX6_kinds S v) = gX6_lowest S := id rfl
theorem nX6_log_kinds (S : SX6) (v : (Nat → Int32)) : gX6_log (sX6_kinds S v) = gX6_log S := id rfl
theorem nX6_logMany_kinds (S : SX6) (v : (Nat → Int32)) : gX6_logMany (sX6_kinds S v) = gX6_logMany S := id rfl
theorem nX6_shelvesRead_kinds (S : SX6) (v : (Nat → Int32)) : gX6_shelvesRead (sX6_kinds S v) = gX6_shelvesRead S := id rfl
theorem nX6_row_kinds (S : SX6) (v : (Nat → Int32)) : gX6_row (sX6_kinds S v) = gX6_row S := id rfl
theorem nX6_spanLow_kinds (S : SX6) (v : (Nat → Int32)) : gX6_spanLow (sX6_kinds S v) = gX6_spanLow S := id rfl
theorem nX6_spanHigh_kinds (S : SX6) (v : (Nat → Int32)) : gX6_spanHigh (sX6_kinds S v) = gX6_spanHigh S := id rfl
theorem nX6_spanOn_kinds (S : SX6) (v : (Nat → Int32)) : gX6_spanOn (sX6_kinds S v) = gX6_spanOn S := id rfl
theorem nX6_seenMany_kinds (S : SX6) (v : (Nat → Int32)) : gX6_seenMany (sX6_kinds S v) = gX6_seenMany S := id rfl
theorem nX6_sights_kinds (S : SX6) (v : (Nat → Int32)) : gX6_sights (sX6_kinds S v) = gX6_sights S := id rfl
theorem nX6_seedNow_kinds (S : SX6) (v : (Nat → Int32)) : gX6_seedNow (sX6_kinds S v) = gX6_seedNow S := id rfl
theorem nX6_keptShelf_kinds (S : SX6) (v : (Nat → Int32)) : gX6_keptShelf (sX6_kinds S v) = gX6_keptShelf S := id rfl
theorem nX6_keptRoot_kinds (S : SX6) (v : (Nat → Int32)) : gX6_keptRoot (sX6_kinds S v) = gX6_keptRoot S := id rfl
theorem nX6_keptMany_kinds (S : SX6) (v : (Nat → Int32)) : gX6_keptMany (sX6_kinds S v) = gX6_keptMany S := id rfl
theorem nX6_keptMost_kinds (S : SX6) (v : (Nat → Int32)) : gX6_keptMost (sX6_kinds S v) = gX6_keptMost S := id rfl
theorem nX6_keptBuilt_kinds (S : SX6) (v : (Nat → Int32)) : gX6_keptBuilt (sX6_kinds S v) = gX6_keptBuilt S := id rfl
theorem nX6_keptCost_kinds (S : SX6) (v : (Nat → Int32)) : gX6_keptCost (sX6_kinds S v) = gX6_keptCost S := id rfl
theorem nX6_keptCredit_kinds (S : SX6) (v : (Nat → Int32)) : gX6_keptCredit (sX6_kinds S v) = gX6_keptCredit S := id rfl
theorem nX6_keptLowest_kinds (S : SX6) (v : (Nat → Int32)) : gX6_keptLowest (sX6_kinds S v) = gX6_keptLowest S := id rfl
theorem nX6_keptLogMany_kinds (S : SX6) (v : (Nat → Int32)) : gX6_keptLogMany (sX6_kinds S v) = gX6_keptLogMany S := id rfl
theorem nX6_keptSeen_kinds (S : SX6) (v : (Nat → Int32)) : gX6_keptSeen (sX6_kinds S v) = gX6_keptSeen S := id rfl
theorem nX6_keptLeft_kinds (S : SX6) (v : (Nat → Int32)) : gX6_keptLeft (sX6_kinds S v) = gX6_keptLeft S := id rfl
theorem nX6_keptRight_kinds (S : SX6) (v : (Nat → Int32)) : gX6_keptRight (sX6_kinds S v) = gX6_keptRight S := id rfl
theorem nX6_keptAbove_kinds (S : SX6) (v : (Nat → Int32)) : gX6_keptAbove (sX6_kinds S v) = gX6_keptAbove S := id rfl
theorem nX6_keptThere_kinds (S : SX6) (v : (Nat → Int32)) : gX6_keptThere (sX6_kinds S v) = gX6_keptThere S := id rfl
theorem nX6_keptKinds_kinds (S : SX6) (v : (Nat → Int32)) : gX6_keptKinds (sX6_kinds S v) = gX6_keptKinds S := id rfl
theorem nX6_keptValues_kinds (S : SX6) (v : (Nat → Int32)) : gX6_keptValues (sX6_kinds S v) = gX6_keptValues S := id rfl
theorem nX6_keptLog_kinds (S : SX6) (v : (Nat → Int32)) : gX6_keptLog (sX6_kinds S v) = gX6_keptLog S := id rfl
theorem nX6_keptSights_kinds (S : SX6) (v : (Nat → Int32)) : gX6_keptSights (sX6_kinds S v) = gX6_keptSights S := id rfl
theorem nX6_hash_kinds (S : SX6) (v : (Nat → Int32)) : gX6_hash (sX6_kinds S v) = gX6_hash S := id rfl
theorem nX6_page_values (S : SX6) (v : (Nat → Int32)) : gX6_page (sX6_values S v) = gX6_page S := id rfl
theorem nX6_pageMany_values (S : SX6) (v : (Nat → Int32)) : gX6_pageMany (sX6_values S v) = gX6_pageMany S := id rfl
theorem nX6_left_values (S : SX6) (v : (Nat → Int32)) : gX6_left (sX6_values S v) = gX6_left S := id rfl
theorem nX6_right_values (S : SX6) (v : (Nat → Int32)) : gX6_right (sX6_values S v) = gX6_right S := id rfl
theorem nX6_above_values (S : SX6) (v : (Nat → Int32)) : gX6_above (sX6_values S v) = gX6_above S := id rfl
theorem nX6_there_values (S : SX6) (v : (Nat → Int32)) : gX6_there (sX6_values S v) = gX6_there S := id rfl
theorem nX6_root_values (S : SX6) (v : (Nat → Int32)) : gX6_root (sX6_values S v) = gX6_root S := id rfl
theorem nX6_many_values (S : SX6) (v : (Nat → Int32)) : gX6_many (sX6_values S v) = gX6_many S := id rfl
theorem nX6_most_values (S : SX6) (v : (Nat → Int32)) : gX6_most (sX6_values S v) = gX6_most S := id rfl
theorem nX6_builtNow_values (S : SX6) (v : (Nat → Int32)) : gX6_builtNow (sX6_values S v) = gX6_builtNow S := id rfl
theorem nX6_built_values (S : SX6) (v : (Nat → Int32)) : gX6_built (sX6_values S v) = gX6_built S := id rfl
theorem nX6_cost_values (S : SX6) (v : (Nat → Int32)) : gX6_cost (sX6_values S v) = gX6_cost S := id rfl
theorem nX6_kinds_values (S : SX6) (v : (Nat → Int32)) : gX6_kinds (sX6_values S v) = gX6_kinds S := id rfl
theorem nX6_values_values (S : SX6) (v : (Nat → Int32)) : gX6_values (sX6_values S v) = v := id rfl
theorem nX6_ratioA_values (S : SX6) (v : (Nat → Int32)) : gX6_ratioA (sX6_values S v) = gX6_ratioA S := id rfl
theorem nX6_ratioB_values (S : SX6) (v : (Nat → Int32)) : gX6_ratioB (sX6_values S v) = gX6_ratioB S := id rfl
theorem nX6_thenA_values (S : SX6) (v : (Nat → Int32)) : gX6_thenA (sX6_values S v) = gX6_thenA S := id rfl
theorem nX6_thenB_values (S : SX6) (v : (Nat → Int32)) : gX6_thenB (sX6_values S v) = gX6_thenB S := id rfl
theorem nX6_fee_values (S : SX6) (v : (Nat → Int32)) : gX6_fee (sX6_values S v) = gX6_fee S := id rfl
theorem nX6_credit_values (S : SX6) (v : (Nat → Int32)) : gX6_credit (sX6_values S v) = gX6_credit S := id rfl
theorem nX6_lowest_values (S : SX6) (v : (Nat → Int32)) : gX6_lowest (sX6_values S v) = gX6_lowest S := id rfl
theorem nX6_log_values (S : SX6) (v : (Nat → Int32)) : gX6_log (sX6_values S v) = gX6_log S := id rfl
theorem nX6_logMany_values (S : SX6) (v : (Nat → Int32)) : gX6_logMany (sX6_values S v) = gX6_logMany S := id rfl
theorem nX6_shelvesRead_values (S : SX6) (v : (Nat → Int32)) : gX6_shelvesRead (sX6_values S v) = gX6_shelvesRead S := id rfl
theorem nX6_row_values (S : SX6) (v : (Nat → Int32)) : gX6_row (sX6_values S v) = gX6_row S := id rfl
theorem nX6_spanLow_values (S : SX6) (v : (Nat → Int32)) : gX6_spanLow (sX6_values S v) = gX6_spanLow S := id rfl
theorem nX6_spanHigh_values (S : SX6) (v : (Nat → Int32)) : gX6_spanHigh (sX6_values S v) = gX6_spanHigh S := id rfl
theorem nX6_spanOn_values (S : SX6) (v : (Nat → Int32)) : gX6_spanOn (sX6_values S v) = gX6_spanOn S := id rfl
theorem nX6_seenMany_values (S : SX6) (v : (Nat → Int32)) : gX6_seenMany (sX6_values S v) = gX6_seenMany S := id rfl
theorem nX6_sights_values (S : SX6) (v : (Nat → Int32)) : gX6_sights (sX6_values S v) = gX6_sights S := id rfl
theorem nX6_seedNow_values (S : SX6) (v : (Nat → Int32)) : gX6_seedNow (sX6_values S v) = gX6_seedNow S := id rfl
theorem nX6_keptShelf_values (S : SX6) (v : (Nat → Int32)) : gX6_keptShelf (sX6_values S v) = gX6_keptShelf S := id rfl
theorem nX6_keptRoot_values (S : SX6) (v : (Nat → Int32)) : gX6_keptRoot (sX6_values S v) = gX6_keptRoot S := id rfl
theorem nX6_keptMany_values (S : SX6) (v : (Nat → Int32)) : gX6_keptMany (sX6_values S v) = gX6_keptMany S := id rfl
theorem nX6_keptMost_values (S : SX6) (v : (Nat → Int32)) : gX6_keptMost (sX6_values S v) = gX6_keptMost S := id rfl
theorem nX6_keptBuilt_values (S : SX6) (v : (Nat → Int32)) : gX6_keptBuilt (sX6_values S v) = gX6_keptBuilt S := id rfl
theorem nX6_keptCost_values (S : SX6) (v : (Nat → Int32)) : gX6_keptCost (sX6_values S v) = gX6_keptCost S := id rfl
theorem nX6_keptCredit_values (S : SX6) (v : (Nat → Int32)) : gX6_keptCredit (sX6_values S v) = gX6_keptCredit S := id rfl
theorem nX6_keptLowest_values (S : SX6) (v : (Nat → Int32)) : gX6_keptLowest (sX6_values S v) = gX6_keptLowest S := id rfl
theorem nX6_keptLogMany_values (S : SX6) (v : (Nat → Int32)) : gX6_keptLogMany (sX6_values S v) = gX6_keptLogMany S := id rfl
theorem nX6_keptSeen_values (S : SX6) (v : (Nat → Int32)) : gX6_keptSeen (sX6_values S v) = gX6_keptSeen S := id rfl
theorem nX6_keptLeft_values (S : SX6) (v : (Nat → Int32)) : gX6_keptLeft (sX6_values S v) = gX6_keptLeft S := id rfl
theorem nX6_keptRight_values (S : SX6) (v : (Nat → Int32)) : gX6_keptRight (sX6_values S v) = gX6_keptRight S := id rfl
theorem nX6_keptAbove_values (S : SX6) (v : (Nat → Int32)) : gX6_keptAbove (sX6_values S v) = gX6_keptAbove S := id rfl
theorem nX6_keptThere_values (S : SX6) (v : (Nat → Int32)) : gX6_keptThere (sX6_values S v) = gX6_keptThere S := id rfl
theorem nX6_keptKinds_values (S : SX6) (v : (Nat → Int32)) : gX6_keptKinds (sX6_values S v) = gX6_keptKinds S := id rfl
theorem nX6_keptValues_values (S : SX6) (v : (Nat → Int32)) : gX6_keptValues (sX6_values S v) = gX6_keptValues S := id rfl
theorem nX6_keptLog_values (S : SX6) (v : (Nat → Int32)) : gX6_keptLog (sX6_values S v) = gX6_keptLog S := id rfl
theorem nX6_keptSights_values (S : SX6) (v : (Nat → Int32)) : gX6_keptSights (sX6_values S v) = gX6_keptSights S := id rfl
theorem nX6_hash_values (S : SX6) (v : (Nat → Int32)) : gX6_hash (sX6_values S v) = gX6_hash S := id rfl
theorem nX6_page_credit (S : SX6) (v : Int32) : gX6_page (sX6_credit S v) = gX6_page S := id rfl
theorem nX6_pageMany_credit (S : SX6) (v : Int32) : gX6_pageMany (sX6_credit S v) = gX6_pageMany S := id rfl
theorem nX6_left_credit (S : SX6) (v : Int32) : gX6_left (sX6_credit S v) = gX6_left S := id rfl
theorem nX6_right_credit (S : SX6) (v : Int32) : gX6_right (sX6_credit S v) = gX6_right S := id rfl
theorem nX6_above_credit (S : SX6) (v : Int32) : gX6_above (sX6_credit S v) = gX6_above S := id rfl
theorem nX6_there_credit (S : SX6) (v : Int32) : gX6_there (sX6_credit S v) = gX6_there S := id rfl
theorem nX6_root_credit (S : SX6) (v : Int32) : gX6_root (sX6_credit S v) = gX6_root S := id rfl
theorem nX6_many_credit (S : SX6) (v : Int32) : gX6_many (sX6_credit S v) = gX6_many S := id rfl
theorem nX6_most_credit (S : SX6) (v : Int32) : gX6_most (sX6_credit S v) = gX6_most S := id rfl
theorem nX6_builtNow_credit (S : SX6) (v : Int32) : gX6_builtNow (sX6_credit S v) = gX6_builtNow S := id rfl
theorem nX6_built_credit (S : SX6) (v : Int32) : gX6_built (sX6_credit S v) = gX6_built S := id rfl
theorem nX6_cost_credit (S : SX6) (v : Int32) : gX6_cost (sX6_credit S v) = gX6_cost S := id rfl
theorem nX6_kinds_credit (S : SX6) (v : Int32) : gX6_kinds (sX6_credit S v) = gX6_kinds S := id rfl
theorem nX6_values_credit (S : SX6) (v : Int32) : gX6_values (sX6_credit S v) = gX6_values S := id rfl
theorem nX6_ratioA_credit (S : SX6) (v : Int32) : gX6_ratioA (sX6_credit S v) = gX6_ratioA S := id rfl
theorem nX6_ratioB_credit (S : SX6) (v : Int32) : gX6_ratioB (sX6_credit S v) = gX6_ratioB S := id rfl
theorem nX6_thenA_credit (S : SX6) (v : Int32) : gX6_thenA (sX6_credit S v) = gX6_thenA S := id rfl
theorem nX6_thenB_credit (S : SX6) (v : Int32) : gX6_thenB (sX6_credit S v) = gX6_thenB S := id rfl
theorem nX6_fee_credit (S : SX6) (v : Int32) : gX6_fee (sX6_credit S v) = gX6_fee S := id rfl
theorem nX6_credit_credit (S : SX6) (v : Int32) : gX6_credit (sX6_credit S v) = v := id rfl
theorem nX6_lowest_credit (S : SX6) (v : Int32) : gX6_lowest (sX6_credit S v) = gX6_lowest S := id rfl
theorem nX6_log_credit (S : SX6) (v : Int32) : gX6_log (sX6_credit S v) = gX6_log S := id rfl
theorem nX6_logMany_credit (S : SX6) (v : Int32) : gX6_logMany (sX6_credit S v) = gX6_logMany S := id rfl
theorem nX6_shelvesRead_credit (S : SX6) (v : Int32) : gX6_shelvesRead (sX6_credit S v) = gX6_shelvesRead S := id rfl
theorem nX6_row_credit (S : SX6) (v : Int32) : gX6_row (sX6_credit S v) = gX6_row S := id rfl
theorem nX6_spanLow_credit (S : SX6) (v : Int32) : gX6_spanLow (sX6_credit S v) = gX6_spanLow S := id rfl
theorem nX6_spanHigh_credit (S : SX6) (v : Int32) : gX6_spanHigh (sX6_credit S v) = gX6_spanHigh S := id rfl
theorem nX6_spanOn_credit (S : SX6) (v : Int32) : gX6_spanOn (sX6_credit S v) = gX6_spanOn S := id rfl
theorem nX6_seenMany_credit (S : SX6) (v : Int32) : gX6_seenMany (sX6_credit S v) = gX6_seenMany S := id rfl
theorem nX6_sights_credit (S : SX6) (v : Int32) : gX6_sights (sX6_credit S v) = gX6_sights S := id rfl
theorem nX6_seedNow_credit (S : SX6) (v : Int32) : gX6_seedNow (sX6_credit S v) = gX6_seedNow S := id rfl
theorem nX6_keptShelf_credit (S : SX6) (v : Int32) : gX6_keptShelf (sX6_credit S v) = gX6_keptShelf S := id rfl
theorem nX6_keptRoot_credit (S : SX6) (v : Int32) : gX6_keptRoot (sX6_credit S v) = gX6_keptRoot S := id rfl
theorem nX6_keptMany_credit (S : SX6) (v : Int32) : gX6_keptMany (sX6_credit S v) = gX6_keptMany S := id rfl
theorem nX6_keptMost_credit (S : SX6) (v : Int32) : gX6_keptMost (sX6_credit S v) = gX6_keptMost S := id rfl
theorem nX6_keptBuilt_credit (S : SX6) (v : Int32) : gX6_keptBuilt (sX6_credit S v) = gX6_keptBuilt S := id rfl
theorem nX6_keptCost_credit (S : SX6) (v : Int32) : gX6_keptCost (sX6_credit S v) = gX6_keptCost S := id rfl
theorem nX6_keptCredit_credit (S : SX6) (v : Int32) : gX6_keptCredit (sX6_credit S v) = gX6_keptCredit S := id rfl
theorem nX6_keptLowest_credit (S : SX6) (v : Int32) : gX6_keptLowest (sX6_credit S v) = gX6_keptLowest S := id rfl
theorem nX6_keptLogMany_credit (S : SX6) (v : Int32) : gX6_keptLogMany (sX6_credit S v) = gX6_keptLogMany S := id rfl
theorem nX6_keptSeen_credit (S : SX6) (v : Int32) : gX6_keptSeen (sX6_credit S v) = gX6_keptSeen S := id rfl
theorem nX6_keptLeft_credit (S : SX6) (v : Int32) : gX6_keptLeft (sX6_credit S v) = gX6_keptLeft S := id rfl
theorem nX6_keptRight_credit (S : SX6) (v : Int32) : gX6_keptRight (sX6_credit S v) = gX6_keptRight S := id rfl
theorem nX6_keptAbove_credit (S : SX6) (v : Int32) : gX6_keptAbove (sX6_credit S v) = gX6_keptAbove S := id rfl
theorem nX6_keptThere_credit (S : SX6) (v : Int32) : gX6_keptThere (sX6_credit S v) = gX6_keptThere S := id rfl
theorem nX6_keptKinds_credit (S : SX6) (v : Int32) : gX6_keptKinds (sX6_credit S v) = gX6_keptKinds S := id rfl
theorem nX6_keptValues_credit (S : SX6) (v : Int32) : gX6_keptValues (sX6_credit S v) = gX6_keptValues S := id rfl
theorem nX6_keptLog_credit (S : SX6) (v : Int32) : gX6_keptLog (sX6_credit S v) = gX6_keptLog S := id rfl
theorem nX6_keptSights_credit (S : SX6) (v : Int32) : gX6_keptSights (sX6_credit S v) = gX6_keptSights S := id rfl
theorem nX6_hash_credit (S : SX6) (v : Int32) : gX6_hash (sX6_credit S v) = gX6_hash S := id rfl
theorem nX6_page_lowest (S : SX6) (v : Int32) : gX6_page (sX6_lowest S v) = gX6_page S := id rfl
theorem nX6_pageMany_lowest (S : SX6) (v : Int32) : gX6_pageMany (sX6_lowest S v) = gX6_pageMany S := id rfl
theorem nX6_left_lowest (S : SX6) (v : Int32) : gX6_left (sX6_lowest S v) = gX6_left S := id rfl
theorem nX6_right_lowest (S : SX6) (v : Int32) : gX6_right (sX6_lowest S v) = gX6_right S := id rfl
theorem nX6_above_lowest (S : SX6) (v : Int32) : gX6_above (sX6_lowest S v) = gX6_above S := id rfl
theorem nX6_there_lowest (S : SX6) (v : Int32) : gX6_there (sX6_lowest S v) = gX6_there S := id rfl
theorem nX6_root_lowest (S : SX6) (v : Int32) : gX6_root (sX6_lowest S v) = gX6_root S := id rfl
theorem nX6_many_lowest (S : SX6) (v : Int32) : gX6_many (sX6_lowest S v) = gX6_many S := id rfl
theorem nX6_most_lowest (S : SX6) (v : Int32) : gX6_most (sX6_lowest S v) = gX6_most S := id rfl
theorem nX6_builtNow_lowest (S : SX6) (v : Int32) : gX6_builtNow (sX6_lowest S v) = gX6_builtNow S := id rfl
theorem nX6_built_lowest (S : SX6) (v : Int32) : gX6_built (sX6_lowest S v) = gX6_built S := id rfl
theorem nX6_cost_lowest (S : SX6) (v : Int32) : gX6_cost (sX6_lowest S v) = gX6_cost S := id rfl
theorem nX6_kinds_lowest (S : SX6) (v : Int32) : gX6_kinds (sX6_lowest S v) = gX6_kinds S := id rfl
theorem nX6_values_lowest (S : SX6) (v : Int32) : gX6_values (sX6_lowest S v) = gX6_values S := id rfl
theorem nX6_ratioA_lowest (S : SX6) (v : Int32) : gX6_ratioA (sX6_lowest S v) = gX6_ratioA S := id rfl
theorem nX6_ratioB_lowest (S : SX6) (v : Int32) : gX6_ratioB (sX6_lowest S v) = gX6_ratioB S := id rfl
theorem nX6_thenA_lowest (S : SX6) (v : Int32) : gX6_thenA (sX6_lowest S v) = gX6_thenA S := id rfl
theorem nX6_thenB_lowest (S : SX6) (v : Int32) : gX6_thenB (sX6_lowest S v) = gX6_thenB S := id rfl
theorem nX6_fee_lowest (S : SX6) (v : Int32) : gX6_fee (sX6_lowest S v) = gX6_fee S := id rfl
theorem nX6_credit_lowest (S : SX6) (v : Int32) : gX6_credit (sX6_lowest S v) = gX6_credit S := id rfl
theorem nX6_lowest_lowest (S : SX6) (v : Int32) : gX6_lowest (sX6_lowest S v) = v := id rfl
theorem nX6_log_lowest (S : SX6) (v : Int32) : gX6_log (sX6_lowest S v) = gX6_log S := id rfl
theorem nX6_logMany_lowest (S : SX6) (v : Int32) : gX6_logMany (sX6_lowest S v) = gX6_logMany S := id rfl
theorem nX6_shelvesRead_lowest (S : SX6) (v : Int32) : gX6_shelvesRead (sX6_lowest S v) = gX6_shelvesRead S := id rfl
theorem nX6_row_lowest (S : SX6) (v : Int32) : gX6_row (sX6_lowest S v) = gX6_row S := id rfl
theorem nX6_spanLow_lowest (S : SX6) (v : Int32) : gX6_spanLow (sX6_lowest S v) = gX6_spanLow S := id rfl
theorem nX6_spanHigh_lowest (S : SX6) (v : Int32) : gX6_spanHigh (sX6_lowest S v) = gX6_spanHigh S := id rfl
theorem nX6_spanOn_lowest (S : SX6) (v : Int32) : gX6_spanOn (sX6_lowest S v) = gX6_spanOn S := id rfl
theorem nX6_seenMany_lowest (S : SX6) (v : Int32) : gX6_seenMany (sX6_lowest S v) = gX6_seenMany S := id rfl
theorem nX6_sights_lowest (S : SX6) (v : Int32) : gX6_sights (sX6_lowest S v) = gX6_sights S := id rfl
theorem nX6_seedNow_lowest (S : SX6) (v : Int32) : gX6_seedNow (sX6_lowest S v) = gX6_seedNow S := id rfl
theorem nX6_keptShelf_lowest (S : SX6) (v : Int32) : gX6_keptShelf (sX6_lowest S v) = gX6_keptShelf S := id rfl
theorem nX6_keptRoot_lowest (S : SX6) (v : Int32) : gX6_keptRoot (sX6_lowest S v) = gX6_keptRoot S := id rfl
theorem nX6_keptMany_lowest (S : SX6) (v : Int32) : gX6_keptMany (sX6_lowest S v) = gX6_keptMany S := id rfl
theorem nX6_keptMost_lowest (S : SX6) (v : Int32) : gX6_keptMost (sX6_lowest S v) = gX6_keptMost S := id rfl
theorem nX6_keptBuilt_lowest (S : SX6) (v : Int32) : gX6_keptBuilt (sX6_lowest S v) = gX6_keptBuilt S := id rfl
theorem nX6_keptCost_lowest (S : SX6) (v : Int32) : gX6_keptCost (sX6_lowest S v) = gX6_keptCost S := id rfl
theorem nX6_keptCredit_lowest (S : SX6) (v : Int32) : gX6_keptCredit (sX6_lowest S v) = gX6_keptCredit S := id rfl
theorem nX6_keptLowest_lowest (S : SX6) (v : Int32) : gX6_keptLowest (sX6_lowest S v) = gX6_keptLowest S := id rfl
theorem nX6_keptLogMany_lowest (S : SX6) (v : Int32) : gX6_keptLogMany (sX6_lowest S v) = gX6_keptLogMany S := id rfl
theorem nX6_keptSeen_lowest (S : SX6) (v : Int32) : gX6_keptSeen (sX6_lowest S v) = gX6_keptSeen S := id rfl
theorem nX6_keptLeft_lowest (S : SX6) (v : Int32) : gX6_keptLeft (sX6_lowest S v) = gX6_keptLeft S := id rfl
theorem nX6_keptRight_lowest (S : SX6) (v : Int32) : gX6_keptRight (sX6_lowest S v) = gX6_keptRight S := id rfl
theorem nX6_keptAbove_lowest (S : SX6) (v : Int32) : gX6_keptAbove (sX6_lowest S v) = gX6_keptAbove S := id rfl
theorem nX6_keptThere_lowest (S : SX6) (v : Int32) : gX6_keptThere (sX6_lowest S v) = gX6_keptThere S := id rfl
theorem nX6_keptKinds_lowest (S : SX6) (v : Int32) : gX6_keptKinds (sX6_lowest S v) = gX6_keptKinds S := id rfl
theorem nX6_keptValues_lowest (S : SX6) (v : Int32) : gX6_keptValues (sX6_lowest S v) = gX6_keptValues S := id rfl
theorem nX6_keptLog_lowest (S : SX6) (v : Int32) : gX6_keptLog (sX6_lowest S v) = gX6_keptLog S := id rfl
theorem nX6_keptSights_lowest (S : SX6) (v : Int32) : gX6_keptSights (sX6_lowest S v) = gX6_keptSights S := id rfl
theorem nX6_hash_lowest (S : SX6) (v : Int32) : gX6_hash (sX6_lowest S v) = gX6_hash S := id rfl
theorem nX6_page_log (S : SX6) (v : (Nat → Int32)) : gX6_page (sX6_log S v) = gX6_page S := id rfl
theorem nX6_pageMany_log (S : SX6) (v : (Nat → Int32)) : gX6_pageMany (sX6_log S v) = gX6_pageMany S := id rfl
theorem nX6_left_log (S : SX6) (v : (Nat → Int32)) : gX6_left (sX6_log S v) = gX6_left S := id rfl
theorem nX6_right_log (S : SX6) (v : (Nat → Int32)) : gX6_right (sX6_log S v) = gX6_right S := id rfl
theorem nX6_above_log (S : SX6) (v : (Nat → Int32)) : gX6_above (sX6_log S v) = gX6_above S := id rfl
theorem nX6_there_log (S : SX6) (v : (Nat → Int32)) : gX6_there (sX6_log S v) = gX6_there S := id rfl
theorem nX6_root_log (S : SX6) (v : (Nat → Int32)) : gX6_root (sX6_log S v) = gX6_root S := id rfl
theorem nX6_many_log (S : SX6) (v : (Nat → Int32)) : gX6_many (sX6_log S v) = gX6_many S := id rfl
theorem nX6_most_log (S : SX6) (v : (Nat → Int32)) : gX6_most (sX6_log S v) = gX6_most S := id rfl
theorem nX6_builtNow_log (S : SX6) (v : (Nat → Int32)) : gX6_builtNow (sX6_log S v) = gX6_builtNow S := id rfl
theorem nX6_built_log (S : SX6) (v : (Nat → Int32)) : gX6_built (sX6_log S v) = gX6_built S := id rfl
theorem nX6_cost_log (S : SX6) (v : (Nat → Int32)) : gX6_cost (sX6_log S v) = gX6_cost S := id rfl
theorem nX6_kinds_log (S : SX6) (v : (Nat → Int32)) : gX6_kinds (sX6_log S v) = gX6_kinds S := id rfl
theorem nX6_values_log (S : SX6) (v : (Nat → Int32)) : gX6_values (sX6_log S v) = gX6_values S := id rfl
theorem nX6_ratioA_log (S : SX6) (v : (Nat → Int32)) : gX6_ratioA (sX6_log S v) = gX6_ratioA S := id rfl
theorem nX6_ratioB_log (S : SX6) (v : (Nat → Int32)) : gX6_ratioB (sX6_log S v) = gX6_ratioB S := id rfl
theorem nX6_thenA_log (S : SX6) (v : (Nat → Int32)) : gX6_thenA (sX6_log S v) = gX6_thenA S := id rfl
theorem nX6_thenB_log (S : SX6) (v : (Nat → Int32)) : gX6_thenB (sX6_log S v) = gX6_thenB S := id rfl
theorem nX6_fee_log (S : SX6) (v : (Nat → Int32)) : gX6_fee (sX6_log S v) = gX6_fee S := id rfl
theorem nX6_credit_log (S : SX6) (v : (Nat → Int32)) : gX6_credit (sX6_log S v) = gX6_credit S := id rfl
theorem nX6_lowest_log (S : SX6) (v : (Nat → Int32)) : gX6_lowest (sX6_log S v) = gX6_lowest S := id rfl
theorem nX6_log_log (S : SX6) (v : (Nat → Int32)) : gX6_log (sX6_log S v) = v := id rfl
theorem nX6_logMany_log (S : SX6) (v : (Nat → Int32)) : gX6_logMany (sX6_log S v) = gX6_logMany S := id rfl
theorem nX6_shelvesRead_log (S : SX6) (v : (Nat → Int32)) : gX6_shelvesRead (sX6_log S v) = gX6_shelvesRead S := id rfl
theorem nX6_row_log (S : SX6) (v : (Nat → Int32)) : gX6_row (sX6_log S v) = gX6_row S := id rfl
theorem nX6_spanLow_log (S : SX6) (v : (Nat → Int32)) : gX6_spanLow (sX6_log S v) = gX6_spanLow S := id rfl
theorem nX6_spanHigh_log (S : SX6) (v : (Nat → Int32)) : gX6_spanHigh (sX6_log S v) = gX6_spanHigh S := id rfl
theorem nX6_spanOn_log (S : SX6) (v : (Nat → Int32)) : gX6_spanOn (sX6_log S v) = gX6_spanOn S := id rfl
theorem nX6_seenMany_log (S : SX6) (v : (Nat → Int32)) : gX6_seenMany (sX6_log S v) = gX6_seenMany S := id rfl
theorem nX6_sights_log (S : SX6) (v : (Nat → Int32)) : gX6_sights (sX6_log S v) = gX6_sights S := id rfl
theorem nX6_seedNow_log (S : SX6) (v : (Nat → Int32)) : gX6_seedNow (sX6_log S v) = gX6_seedNow S := id rfl
theorem nX6_keptShelf_log (S : SX6) (v : (Nat → Int32)) : gX6_keptShelf (sX6_log S v) = gX6_keptShelf S := id rfl
theorem nX6_keptRoot_log (S : SX6) (v : (Nat → Int32)) : gX6_keptRoot (sX6_log S v) = gX6_keptRoot S := id rfl
theorem nX6_keptMany_log (S : SX6) (v : (Nat → Int32)) : gX6_keptMany (sX6_log S v) = gX6_keptMany S := id rfl
theorem nX6_keptMost_log (S : SX6) (v : (Nat → Int32)) : gX6_keptMost (sX6_log S v) = gX6_keptMost S := id rfl
theorem nX6_keptBuilt_log (S : SX6) (v : (Nat → Int32)) : gX6_keptBuilt (sX6_log S v) = gX6_keptBuilt S := id rfl
theorem nX6_keptCost_log (S : SX6) (v : (Nat → Int32)) : gX6_keptCost (sX6_log S v) = gX6_keptCost S := id rfl
theorem nX6_keptCredit_log (S : SX6) (v : (Nat → Int32)) : gX6_keptCredit (sX6_log S v) = gX6_keptCredit S := id rfl
theorem nX6_keptLowest_log (S : SX6) (v : (Nat → Int32)) : gX6_keptLowest (sX6_log S v) = gX6_keptLowest S := id rfl
theorem nX6_keptLogMany_log (S : SX6) (v : (Nat → Int32)) : gX6_keptLogMany (sX6_log S v) = gX6_keptLogMany S := id rfl
theorem nX6_keptSeen_log (S : SX6) (v : (Nat → Int32)) : gX6_keptSeen (sX6_log S v) = gX6_keptSeen S := id rfl
theorem nX6_keptLeft_log (S : SX6) (v : (Nat → Int32)) : gX6_keptLeft (sX6_log S v) = gX6_keptLeft S := id rfl
theorem nX6_keptRight_log (S : SX6) (v : (Nat → Int32)) : gX6_keptRight (sX6_log S v) = gX6_keptRight S := id rfl
theorem nX6_keptAbove_log (S : SX6) (v : (Nat → Int32)) : gX6_keptAbove (sX6_log S v) = gX6_keptAbove S := id rfl
theorem nX6_keptThere_log (S : SX6) (v : (Nat → Int32)) : gX6_keptThere (sX6_log S v) = gX6_keptThere S := id rfl
theorem nX6_keptKinds_log (S : SX6) (v : (Nat → Int32)) : gX6_keptKinds (sX6_log S v) = gX6_keptKinds S := id rfl
theorem nX6_keptValues_log (S : SX6) (v : (Nat → Int32)) : gX6_keptValues (sX6_log S v) = gX6_keptValues S := id rfl
theorem nX6_keptLog_log (S : SX6) (v : (Nat → Int32)) : gX6_keptLog (sX6_log S v) = gX6_keptLog S := id rfl
theorem nX6_keptSights_log (S : SX6) (v : (Nat → Int32)) : gX6_keptSights (sX6_log S v) = gX6_keptSights S := id rfl
theorem nX6_hash_log (S : SX6) (v : (Nat → Int32)) : gX6_hash (sX6_log S v) = gX6_hash S := id rfl
theorem nX6_page_logMany (S : SX6) (v : Int32) : gX6_page (sX6_logMany S v) = gX6_page S := id rfl
theorem nX6_pageMany_logMany (S : SX6) (v : Int32) : gX6_pageMany (sX6_logMany S v) = gX6_pageMany S := id rfl
theorem nX6_left_logMany (S : SX6) (v : Int32) : gX6_left (sX6_logMany S v) = gX6_left S := id rfl
theorem nX6_right_logMany (S : SX6) (v : Int32) : gX6_right (sX6_logMany S v) = gX6_right S := id rfl
theorem nX6_above_logMany (S : SX6) (v : Int32) : gX6_above (sX6_logMany S v) = gX6_above S := id rfl
theorem nX6_there_logMany (S : SX6) (v : Int32) : gX6_there (sX6_logMany S v) = gX6_there S := id rfl
theorem nX6_root_logMany (S : SX6) (v : Int32) : gX6_root (sX6_logMany S v) = gX6_root S := id rfl
theorem nX6_many_logMany (S : SX6) (v : Int32) : gX6_many (sX6_logMany S v) = gX6_many S := id rfl
theorem nX6_most_logMany (S : SX6) (v : Int32) : gX6_most (sX6_logMany S v) = gX6_most S := id rfl
theorem nX6_builtNow_logMany (S : SX6) (v : Int32) : gX6_builtNow (sX6_logMany S v) = gX6_builtNow S := id rfl
theorem nX6_built_logMany (S : SX6) (v : Int32) : gX6_built (sX6_logMany S v) = gX6_built S := id rfl
theorem nX6_cost_logMany (S : SX6) (v : Int32) : gX6_cost (sX6_logMany S v) = gX6_cost S := id rfl
theorem nX6_kinds_logMany (S : SX6) (v : Int32) : gX6_kinds (sX6_logMany S v) = gX6_kinds S := id rfl
theorem nX6_values_logMany (S : SX6) (v : Int32) : gX6_values (sX6_logMany S v) = gX6_values S := id rfl
theorem nX6_ratioA_logMany (S : SX6) (v : Int32) : gX6_ratioA (sX6_logMany S v) = gX6_ratioA S := id rfl
theorem nX6_ratioB_logMany (S : SX6) (v : Int32) : gX6_ratioB (sX6_logMany S v) = gX6_ratioB S := id rfl
theorem nX6_thenA_logMany (S : SX6) (v : Int32) : gX6_thenA (sX6_logMany S v) = gX6_thenA S := id rfl
theorem nX6_thenB_logMany (S : SX6) (v : Int32) : gX6_thenB (sX6_logMany S v) = gX6_thenB S := id rfl
theorem nX6_fee_logMany (S : SX6) (v : Int32) : gX6_fee (sX6_logMany S v) = gX6_fee S := id rfl
theorem nX6_credit_logMany (S : SX6) (v : Int32) : gX6_credit (sX6_logMany S v) = gX6_credit S := id rfl
theorem nX6_lowest_logMany (S : SX6) (v : Int32) : gX6_lowest (sX6_logMany S v) = gX6_lowest S := id rfl
theorem nX6_log_logMany (S : SX6) (v : Int32) : gX6_log (sX6_logMany S v) = gX6_log S := id rfl
theorem nX6_logMany_logMany (S : SX6) (v : Int32) : gX6_logMany (sX6_logMany S v) = v := id rfl
theorem nX6_shelvesRead_logMany (S : SX6) (v : Int32) : gX6_shelvesRead (sX6_logMany S v) = gX6_shelvesRead S := id rfl
theorem nX6_row_logMany (S : SX6) (v : Int32) : gX6_row (sX6_logMany S v) = gX6_row S := id rfl
theorem nX6_spanLow_logMany (S : SX6) (v : Int32) : gX6_spanLow (sX6_logMany S v) = gX6_spanLow S := id rfl
theorem nX6_spanHigh_logMany (S : SX6) (v : Int32) : gX6_spanHigh (sX6_logMany S v) = gX6_spanHigh S := id rfl
theorem nX6_spanOn_logMany (S : SX6) (v : Int32) : gX6_spanOn (sX6_logMany S v) = gX6_spanOn S := id rfl
theorem nX6_seenMany_logMany (S : SX6) (v : Int32) : gX6_seenMany (sX6_logMany S v) = gX6_seenMany S := id rfl
theorem nX6_sights_logMany (S : SX6) (v : Int32) : gX6_sights (sX6_logMany S v) = gX6_sights S := id rfl
theorem nX6_seedNow_logMany (S : SX6) (v : Int32) : gX6_seedNow (sX6_logMany S v) = gX6_seedNow S := id rfl
theorem nX6_keptShelf_logMany (S : SX6) (v : Int32) : gX6_keptShelf (sX6_logMany S v) = gX6_keptShelf S := id rfl
theorem nX6_keptRoot_logMany (S : SX6) (v : Int32) : gX6_keptRoot (sX6_logMany S v) = gX6_keptRoot S := id rfl
theorem nX6_keptMany_logMany (S : SX6) (v : Int32) : gX6_keptMany (sX6_logMany S v) = gX6_keptMany S := id rfl
theorem nX6_keptMost_logMany (S : SX6) (v : Int32) : gX6_keptMost (sX6_logMany S v) = gX6_keptMost S := id rfl
theorem nX6_keptBuilt_logMany (S : SX6) (v : Int32) : gX6_keptBuilt (sX6_logMany S v) = gX6_keptBuilt S := id rfl
theorem nX6_keptCost_logMany (S : SX6) (v : Int32) : gX6_keptCost (sX6_logMany S v) = gX6_keptCost S := id rfl
theorem nX6_keptCredit_logMany (S : SX6) (v : Int32) : gX6_keptCredit (sX6_logMany S v) = gX6_keptCredit S := id rfl
theorem nX6_keptLowest_logMany (S : SX6) (v : Int32) : gX6_keptLowest (sX6_logMany S v) = gX6_keptLowest S := id rfl
theorem nX6_keptLogMany_logMany (S : SX6) (v : Int32) : gX6_keptLogMany (sX6_logMany S v) = gX6_keptLogMany S := id rfl
theorem nX6_keptSeen_logMany (S : SX6) (v : Int32) : gX6_keptSeen (sX6_logMany S v) = gX6_keptSeen S := id rfl
theorem nX6_keptLeft_logMany (S : SX6) (v : Int32) : gX6_keptLeft (sX6_logMany S v) = gX6_keptLeft S := id rfl
theorem nX6_keptRight_logMany (S : SX6) (v : Int32) : gX6_keptRight (sX6_logMany S v) = gX6_keptRight S := id rfl
theorem nX6_keptAbove_logMany (S : SX6) (v : Int32) : gX6_keptAbove (sX6_logMany S v) = gX6_keptAbove S := id rfl
theorem nX6_keptThere_logMany (S : SX6) (v : Int32) : gX6_keptThere (sX6_logMany S v) = gX6_keptThere S := id rfl
theorem nX6_keptKinds_logMany (S : SX6) (v : Int32) : gX6_keptKinds (sX6_logMany S v) = gX6_keptKinds S := id rfl
theorem nX6_keptValues_logMany (S : SX6) (v : Int32) : gX6_keptValues (sX6_logMany S v) = gX6_keptValues S := id rfl
theorem nX6_keptLog_logMany (S : SX6) (v : Int32) : gX6_keptLog (sX6_logMany S v) = gX6_keptLog S := id rfl
theorem nX6_keptSights_logMany (S : SX6) (v : Int32) : gX6_keptSights (sX6_logMany S v) = gX6_keptSights S := id rfl
theorem nX6_hash_logMany (S : SX6) (v : Int32) : gX6_hash (sX6_logMany S v) = gX6_hash S := id rfl
theorem nX6_page_seenMany (S : SX6) (v : Int32) : gX6_page (sX6_seenMany S v) = gX6_page S := id rfl
theorem nX6_pageMany_seenMany (S : SX6) (v : Int32) : gX6_pageMany (sX6_seenMany S v) = gX6_pageMany S := id rfl
theorem nX6_left_seenMany (S : SX6) (v : Int32) : gX6_left (sX6_seenMany S v) = gX6_left S := id rfl
theorem nX6_right_seenMany (S : SX6) (v : Int32) : gX6_right (sX6_seenMany S v) = gX6_right S := id rfl
theorem nX6_above_seenMany (S : SX6) (v : Int32) : gX6_above (sX6_seenMany S v) = gX6_above S := id rfl
theorem nX6_there_seenMany (S : SX6) (v : Int32) : gX6_there (sX6_seenMany S v) = gX6_there S := id rfl
theorem nX6_root_seenMany (S : SX6) (v : Int32) : gX6_root (sX6_seenMany S v) = gX6_root S := id rfl
theorem nX6_many_seenMany (S : SX6) (v : Int32) : gX6_many (sX6_seenMany S v) = gX6_many S := id rfl
theorem nX6_most_seenMany (S : SX6) (v : Int32) : gX6_most (sX6_seenMany S v) = gX6_most S := id rfl
theorem nX6_builtNow_seenMany (S : SX6) (v : Int32) : gX6_builtNow (sX6_seenMany S v) = gX6_builtNow S := id rfl
theorem nX6_built_seenMany (S : SX6) (v : Int32) : gX6_built (sX6_seenMany S v) = gX6_built S := id rfl
theorem nX6_cost_seenMany (S : SX6) (v : Int32) : gX6_cost (sX6_seenMany S v) = gX6_cost S := id rfl
theorem nX6_kinds_seenMany (S : SX6) (v : Int32) : gX6_kinds (sX6_seenMany S v) = gX6_kinds S := id rfl
theorem nX6_values_seenMany (S : SX6) (v : Int32) : gX6_values (sX6_seenMany S v) = gX6_values S := id rfl
theorem nX6_ratioA_seenMany (S : SX6) (v : Int32) : gX6_ratioA (sX6_seenMany S v) = gX6_ratioA S := id rfl
theorem nX6_ratioB_seenMany (S : SX6) (v : Int32) : gX6_ratioB (sX6_seenMany S v) = gX6_ratioB S := id rfl
theorem nX6_thenA_seenMany (S : SX6) (v : Int32) : gX6_thenA (sX6_seenMany S v) = gX6_thenA S := id rfl
theorem nX6_thenB_seenMany (S : SX6) (v : Int32) : gX6_thenB (sX6_seenMany S v) = gX6_thenB S := id rfl
theorem nX6_fee_seenMany (S : SX6) (v : Int32) : gX6_fee (sX6_seenMany S v) = gX6_fee S := id rfl
theorem nX6_credit_seenMany (S : SX6) (v : Int32) : gX6_credit (sX6_seenMany S v) = gX6_credit S := id rfl
theorem nX6_lowest_seenMany (S : SX6) (v : Int32) : gX6_lowest (sX6_seenMany S v) = gX6_lowest S := id rfl
theorem nX6_log_seenMany (S : SX6) (v : Int32) : gX6_log (sX6_seenMany S v) = gX6_log S := id rfl
theorem nX6_logMany_seenMany (S : SX6) (v : Int32) : gX6_logMany (sX6_seenMany S v) = gX6_logMany S := id rfl
theorem nX6_shelvesRead_seenMany (S : SX6) (v : Int32) : gX6_shelvesRead (sX6_seenMany S v) = gX6_shelvesRead S := id rfl
theorem nX6_row_seenMany (S : SX6) (v : Int32) : gX6_row (sX6_seenMany S v) = gX6_row S := id rfl
theorem nX6_spanLow_seenMany (S : SX6) (v : Int32) : gX6_spanLow (sX6_seenMany S v) = gX6_spanLow S := id rfl
theorem nX6_spanHigh_seenMany (S : SX6) (v : Int32) : gX6_spanHigh (sX6_seenMany S v) = gX6_spanHigh S := id rfl
theorem nX6_spanOn_seenMany (S : SX6) (v : Int32) : gX6_spanOn (sX6_seenMany S v) = gX6_spanOn S := id rfl
theorem nX6_seenMany_seenMany (S : SX6) (v : Int32) : gX6_seenMany (sX6_seenMany S v) = v := id rfl
theorem nX6_sights_seenMany (S : SX6) (v : Int32) : gX6_sights (sX6_seenMany S v) = gX6_sights S := id rfl
theorem nX6_seedNow_seenMany (S : SX6) (v : Int32) : gX6_seedNow (sX6_seenMany S v) = gX6_seedNow S := id rfl
theorem nX6_keptShelf_seenMany (S : SX6) (v : Int32) : gX6_keptShelf (sX6_seenMany S v) = gX6_keptShelf S := id rfl
theorem nX6_keptRoot_seenMany (S : SX6) (v : Int32) : gX6_keptRoot (sX6_seenMany S v) = gX6_keptRoot S := id rfl
theorem nX6_keptMany_seenMany (S : SX6) (v : Int32) : gX6_keptMany (sX6_seenMany S v) = gX6_keptMany S := id rfl
theorem nX6_keptMost_seenMany (S : SX6) (v : Int32) : gX6_keptMost (sX6_seenMany S v) = gX6_keptMost S := id rfl
theorem nX6_keptBuilt_seenMany (S : SX6) (v : Int32) : gX6_keptBuilt (sX6_seenMany S v) = gX6_keptBuilt S := id rfl
theorem nX6_keptCost_seenMany (S : SX6) (v : Int32) : gX6_keptCost (sX6_seenMany S v) = gX6_keptCost S := id rfl
theorem nX6_keptCredit_seenMany (S : SX6) (v : Int32) : gX6_keptCredit (sX6_seenMany S v) = gX6_keptCredit S := id rfl
theorem nX6_keptLowest_seenMany (S : SX6) (v : Int32) : gX6_keptLowest (sX6_seenMany S v) = gX6_keptLowest S := id rfl
theorem nX6_keptLogMany_seenMany (S : SX6) (v : Int32) : gX6_keptLogMany (sX6_seenMany S v) = gX6_keptLogMany S := id rfl
theorem nX6_keptSeen_seenMany (S : SX6) (v : Int32) : gX6_keptSeen (sX6_seenMany S v) = gX6_keptSeen S := id rfl
theorem nX6_keptLeft_seenMany (S : SX6) (v : Int32) : gX6_keptLeft (sX6_seenMany S v) = gX6_keptLeft S := id rfl
theorem nX6_keptRight_seenMany (S : SX6) (v : Int32) : gX6_keptRight (sX6_seenMany S v) = gX6_keptRight S := id rfl
theorem nX6_keptAbove_seenMany (S : SX6) (v : Int32) : gX6_keptAbove (sX6_seenMany S v) = gX6_keptAbove S := id rfl
theorem nX6_keptThere_seenMany (S : SX6) (v : Int32) : gX6_keptThere (sX6_seenMany S v) = gX6_keptThere S := id rfl
theorem nX6_keptKinds_seenMany (S : SX6) (v : Int32) : gX6_keptKinds (sX6_seenMany S v) = gX6_keptKinds S := id rfl
theorem nX6_keptValues_seenMany (S : SX6) (v : Int32) : gX6_keptValues (sX6_seenMany S v) = gX6_keptValues S := id rfl
theorem nX6_keptLog_seenMany (S : SX6) (v : Int32) : gX6_keptLog (sX6_seenMany S v) = gX6_keptLog S := id rfl
theorem nX6_keptSights_seenMany (S : SX6) (v : Int32) : gX6_keptSights (sX6_seenMany S v) = gX6_keptSights S := id rfl
theorem nX6_hash_seenMany (S : SX6) (v : Int32) : gX6_hash (sX6_seenMany S v) = gX6_hash S := id rfl
theorem nX6_page_sights (S : SX6) (v : (Nat → Int32)) : gX6_page (sX6_sights S v) = gX6_page S := id rfl
theorem nX6_pageMany_sights (S : SX6) (v : (Nat → Int32)) : gX6_pageMany (sX6_sights S v) = gX6_pageMany S := id rfl
theorem nX6_left_sights (S : SX6) (v : (Nat → Int32)) : gX6_left (sX6_sights S v) = gX6_left S := id rfl
theorem nX6_right_sights (S : SX6) (v : (Nat → Int32)) : gX6_right (sX6_sights S v) = gX6_right S := id rfl
theorem nX6_above_sights (S : SX6) (v : (Nat → Int32)) : gX6_above (sX6_sights S v) = gX6_above S := id rfl
theorem nX6_there_sights (S : SX6) (v : (Nat → Int32)) : gX6_there (sX6_sights S v) = gX6_there S := id rfl
theorem nX6_root_sights (S : SX6) (v : (Nat → Int32)) : gX6_root (sX6_sights S v) = gX6_root S := id rfl
theorem nX6_many_sights (S : SX6) (v : (Nat → Int32)) : gX6_many (sX6_sights S v) = gX6_many S := id rfl
theorem nX6_most_sights (S : SX6) (v : (Nat → Int32)) : gX6_most (sX6_sights S v) = gX6_most S := id rfl
theorem nX6_builtNow_sights (S : SX6) (v : (Nat → Int32)) : gX6_builtNow (sX6_sights S v) = gX6_builtNow S := id rfl
theorem nX6_built_sights (S : SX6) (v : (Nat → Int32)) : gX6_built (sX6_sights S v) = gX6_built S := id rfl
theorem nX6_cost_sights (S : SX6) (v : (Nat → Int32)) : gX6_cost (sX6_sights S v) = gX6_cost S := id rfl
theorem nX6_kinds_sights (S : SX6) (v : (Nat → Int32)) : gX6_kinds (sX6_sights S v) = gX6_kinds S := id rfl
theorem nX6_values_sights (S : SX6) (v : (Nat → Int32)) : gX6_values (sX6_sights S v) = gX6_values S := id rfl
theorem nX6_ratioA_sights (S : SX6) (v : (Nat → Int32)) : gX6_ratioA (sX6_sights S v) = gX6_ratioA S := id rfl
theorem nX6_ratioB_sights (S : SX6) (v : (Nat → Int32)) : gX6_ratioB (sX6_sights S v) = gX6_ratioB S := id rfl
theorem nX6_thenA_sights (S : SX6) (v : (Nat → Int32)) : gX6_thenA (sX6_sights S v) = gX6_thenA S := id rfl
theorem nX6_thenB_sights (S : SX6) (v : (Nat → Int32)) : gX6_thenB (sX6_sights S v) = gX6_thenB S := id rfl
theorem nX6_fee_sights (S : SX6) (v : (Nat → Int32)) : gX6_fee (sX6_sights S v) = gX6_fee S := id rfl
theorem nX6_credit_sights (S : SX6) (v : (Nat → Int32)) : gX6_credit (sX6_sights S v) = gX6_credit S := id rfl
theorem nX6_lowest_sights (S : SX6) (v : (Nat → Int32)) : gX6_lowest (sX6_sights S v) = gX6_lowest S := id rfl
theorem nX6_log_sights (S : SX6) (v : (Nat → Int32)) : gX6_log (sX6_sights S v) = gX6_log S := id rfl
theorem nX6_logMany_sights (S : SX6) (v : (Nat → Int32)) : gX6_logMany (sX6_sights S v) = gX6_logMany S := id rfl
theorem nX6_shelvesRead_sights (S : SX6) (v : (Nat → Int32)) : gX6_shelvesRead (sX6_sights S v) = gX6_shelvesRead S := id rfl
theorem nX6_row_sights (S : SX6) (v : (Nat → Int32)) : gX6_row (sX6_sights S v) = gX6_row S := id rfl
theorem nX6_spanLow_sights (S : SX6) (v : (Nat → Int32)) : gX6_spanLow (sX6_sights S v) = gX6_spanLow S := id rfl
theorem nX6_spanHigh_sights (S : SX6) (v : (Nat → Int32)) : gX6_spanHigh (sX6_sights S v) = gX6_spanHigh S := id rfl
theorem nX6_spanOn_sights (S : SX6) (v : (Nat → Int32)) : gX6_spanOn (sX6_sights S v) = gX6_spanOn S := id rfl
theorem nX6_seenMany_sights (S : SX6) (v : (Nat → Int32)) : gX6_seenMany (sX6_sights S v) = gX6_seenMany S := id rfl
theorem nX6_sights_sights (S : SX6) (v : (Nat → Int32)) : gX6_sights (sX6_sights S v) = v := id rfl
theorem nX6_seedNow_sights (S : SX6) (v : (Nat → Int32)) : gX6_seedNow (sX6_sights S v) = gX6_seedNow S := id rfl
theorem nX6_keptShelf_sights (S : SX6) (v : (Nat → Int32)) : gX6_keptShelf (sX6_sights S v) = gX6_keptShelf S := id rfl
theorem nX6_keptRoot_sights (S : SX6) (v : (Nat → Int32)) : gX6_keptRoot (sX6_sights S v) = gX6_keptRoot S := id rfl
theorem nX6_keptMany_sights (S : SX6) (v : (Nat → Int32)) : gX6_keptMany (sX6_sights S v) = gX6_keptMany S := id rfl
theorem nX6_keptMost_sights (S : SX6) (v : (Nat → Int32)) : gX6_keptMost (sX6_sights S v) = gX6_keptMost S := id rfl
theorem nX6_keptBuilt_sights (S : SX6) (v : (Nat → Int32)) : gX6_keptBuilt (sX6_sights S v) = gX6_keptBuilt S := id rfl
theorem nX6_keptCost_sights (S : SX6) (v : (Nat → Int32)) : gX6_keptCost (sX6_sights S v) = gX6_keptCost S := id rfl
theorem nX6_keptCredit_sights (S : SX6) (v : (Nat → Int32)) : gX6_keptCredit (sX6_sights S v) = gX6_keptCredit S := id rfl
theorem nX6_keptLowest_sights (S : SX6) (v : (Nat → Int32)) : gX6_keptLowest (sX6_sights S v) = gX6_keptLowest S := id rfl
theorem nX6_keptLogMany_sights (S : SX6) (v : (Nat → Int32)) : gX6_keptLogMany (sX6_sights S v) = gX6_keptLogMany S := id rfl
theorem nX6_keptSeen_sights (S : SX6) (v : (Nat → Int32)) : gX6_keptSeen (sX6_sights S v) = gX6_keptSeen S := id rfl
theorem nX6_keptLeft_sights (S : SX6) (v : (Nat → Int32)) : gX6_keptLeft (sX6_sights S v) = gX6_keptLeft S := id rfl
theorem nX6_keptRight_sights (S : SX6) (v : (Nat → Int32)) : gX6_keptRight (sX6_sights S v) = gX6_keptRight S := id rfl
theorem nX6_keptAbove_sights (S : SX6) (v : (Nat → Int32)) : gX6_keptAbove (sX6_sights S v) = gX6_keptAbove S := id rfl
theorem nX6_keptThere_sights (S : SX6) (v : (Nat → Int32)) : gX6_keptThere (sX6_sights S v) = gX6_keptThere S := id rfl
theorem nX6_keptKinds_sights (S : SX6) (v : (Nat → Int32)) : gX6_keptKinds (sX6_sights S v) = gX6_keptKinds S := id rfl
theorem nX6_keptValues_sights (S : SX6) (v : (Nat → Int32)) : gX6_keptValues (sX6_sights S v) = gX6_keptValues S := id rfl
theorem nX6_keptLog_sights (S : SX6) (v : (Nat → Int32)) : gX6_keptLog (sX6_sights S v) = gX6_keptLog S := id rfl
theorem nX6_keptSights_sights (S : SX6) (v : (Nat → Int32)) : gX6_keptSights (sX6_sights S v) = gX6_keptSights S := id rfl
theorem nX6_hash_sights (S : SX6) (v : (Nat → Int32)) : gX6_hash (sX6_sights S v) = gX6_hash S := id rfl
theorem nX6_page_keptShelf (S : SX6) (v : Int32) : gX6_page (sX6_keptShelf S v) = gX6_page S := id rfl
theorem nX6_pageMany_keptShelf (S : SX6) (v : Int32) : gX6_pageMany (sX6_keptShelf S v) = gX6_pageMany S := id rfl
theorem nX6_left_keptShelf (S : SX6) (v : Int32) : gX6_left (sX6_keptShelf S v) = gX6_left S := id rfl
theorem nX6_right_keptShelf (S : SX6) (v : Int32) : gX6_right (sX6_keptShelf S v) = gX6_right S := id rfl
theorem nX6_above_keptShelf (S : SX6) (v : Int32) : gX6_above (sX6_keptShelf S v) = gX6_above S := id rfl
theorem nX6_there_keptShelf (S : SX6) (v : Int32) : gX6_there (sX6_keptShelf S v) = gX6_there S := id rfl
theorem nX6_root_keptShelf (S : SX6) (v : Int32) : gX6_root (sX6_keptShelf S v) = gX6_root S := id rfl
theorem nX6_many_keptShelf (S : SX6) (v : Int32) : gX6_many (sX6_keptShelf S v) = gX6_many S := id rfl
theorem nX6_most_keptShelf (S : SX6) (v : Int32) : gX6_most (sX6_keptShelf S v) = gX6_most S := id rfl
theorem nX6_builtNow_keptShelf (S : SX6) (v : Int32) : gX6_builtNow (sX6_keptShelf S v) = gX6_builtNow S := id rfl
theorem nX6_built_keptShelf (S : SX6) (v : Int32) : gX6_built (sX6_keptShelf S v) = gX6_built S := id rfl
theorem nX6_cost_keptShelf (S : SX6) (v : Int32) : gX6_cost (sX6_keptShelf S v) = gX6_cost S := id rfl
theorem nX6_kinds_keptShelf (S : SX6) (v : Int32) : gX6_kinds (sX6_keptShelf S v) = gX6_kinds S := id rfl
theorem nX6_values_keptShelf (S : SX6) (v : Int32) : gX6_values (sX6_keptShelf S v) = gX6_values S := id rfl
theorem nX6_ratioA_keptShelf (S : SX6) (v : Int32) : gX6_ratioA (sX6_keptShelf S v) = gX6_ratioA S := id rfl
theorem nX6_ratioB_keptShelf (S : SX6) (v : Int32) : gX6_ratioB (sX6_keptShelf S v) = gX6_ratioB S := id rfl
theorem nX6_thenA_keptShelf (S : SX6) (v : Int32) : gX6_thenA (sX6_keptShelf S v) = gX6_thenA S := id rfl
theorem nX6_thenB_keptShelf (S : SX6) (v : Int32) : gX6_thenB (sX6_keptShelf S v) = gX6_thenB S := id rfl
theorem nX6_fee_keptShelf (S : SX6) (v : Int32) : gX6_fee (sX6_keptShelf S v) = gX6_fee S := id rfl
theorem nX6_credit_keptShelf (S : SX6) (v : Int32) : gX6_credit (sX6_keptShelf S v) = gX6_credit S := id rfl
theorem nX6_lowest_keptShelf (S : SX6) (v : Int32) : gX6_lowest (sX6_keptShelf S v) = gX6_lowest S := id rfl
theorem nX6_log_keptShelf (S : SX6) (v : Int32) : gX6_log (sX6_keptShelf S v) = gX6_log S := id rfl
theorem nX6_logMany_keptShelf (S : SX6) (v : Int32) : gX6_logMany (sX6_keptShelf S v) = gX6_logMany S := id rfl
theorem nX6_shelvesRead_keptShelf (S : SX6) (v : Int32) : gX6_shelvesRead (sX6_keptShelf S v) = gX6_shelvesRead S := id rfl
theorem nX6_row_keptShelf (S : SX6) (v : Int32) : gX6_row (sX6_keptShelf S v) = gX6_row S := id rfl
theorem nX6_spanLow_keptShelf (S : SX6) (v : Int32) : gX6_spanLow (sX6_keptShelf S v) = gX6_spanLow S := id rfl
theorem nX6_spanHigh_keptShelf (S : SX6) (v : Int32) : gX6_spanHigh (sX6_keptShelf S v) = gX6_spanHigh S := id rfl
theorem nX6_spanOn_keptShelf (S : SX6) (v : Int32) : gX6_spanOn (sX6_keptShelf S v) = gX6_spanOn S := id rfl
theorem nX6_seenMany_keptShelf (S : SX6) (v : Int32) : gX6_seenMany (sX6_keptShelf S v) = gX6_seenMany S := id rfl
theorem nX6_sights_keptShelf (S : SX6) (v : Int32) : gX6_sights (sX6_keptShelf S v) = gX6_sights S := id rfl
theorem nX6_seedNow_keptShelf (S : SX6) (v : Int32) : gX6_seedNow (sX6_keptShelf S v) = gX6_seedNow S := id rfl
theorem nX6_keptShelf_keptShelf (S : SX6) (v : Int32) : gX6_keptShelf (sX6_keptShelf S v) = v := id rfl
theorem nX6_keptRoot_keptShelf (S : SX6) (v : Int32) : gX6_keptRoot (sX6_keptShelf S v) = gX6_keptRoot S := id rfl
theorem nX6_keptMany_keptShelf (S : SX6) (v : Int32) : gX6_keptMany (sX6_keptShelf S v) = gX6_keptMany S := id rfl
theorem nX6_keptMost_keptShelf (S : SX6) (v : Int32) : gX6_keptMost (sX6_keptShelf S v) = gX6_keptMost S := id rfl
theorem nX6_keptBuilt_keptShelf (S : SX6) (v : Int32) : gX6_keptBuilt (sX6_keptShelf S v) = gX6_keptBuilt S := id rfl
theorem nX6_keptCost_keptShelf (S : SX6) (v : Int32) : gX6_keptCost (sX6_keptShelf S v) = gX6_keptCost S := id rfl
theorem nX6_keptCredit_keptShelf (S : SX6) (v : Int32) : gX6_keptCredit (sX6_keptShelf S v) = gX6_keptCredit S := id rfl
theorem nX6_keptLowest_keptShelf (S : SX6) (v : Int32) : gX6_keptLowest (sX6_keptShelf S v) = gX6_keptLowest S := id rfl
theorem nX6_keptLogMany_keptShelf (S : SX6) (v : Int32) : gX6_keptLogMany (sX6_keptShelf S v) = gX6_keptLogMany S := id rfl
theorem nX6_keptSeen_keptShelf (S : SX6) (v : Int32) : gX6_keptSeen (sX6_keptShelf S v) = gX6_keptSeen S := id rfl
theorem nX6_keptLeft_keptShelf (S : SX6) (v : Int32) : gX6_keptLeft (sX6_keptShelf S v) = gX6_keptLeft S := id rfl
theorem nX6_keptRight_keptShelf (S : SX6) (v : Int32) : gX6_keptRight (sX6_keptShelf S v) = gX6_keptRight S := id rfl
theorem nX6_keptAbove_keptShelf (S : SX6) (v : Int32) : gX6_keptAbove (sX6_keptShelf S v) = gX6_keptAbove S := id rfl
theorem nX6_keptThere_keptShelf (S : SX6) (v : Int32) : gX6_keptThere (sX6_keptShelf S v) = gX6_keptThere S := id rfl
theorem nX6_keptKinds_keptShelf (S : SX6) (v : Int32) : gX6_keptKinds (sX6_keptShelf S v) = gX6_keptKinds S := id rfl
theorem nX6_keptValues_keptShelf (S : SX6) (v : Int32) : gX6_keptValues (sX6_keptShelf S v) = gX6_keptValues S := id rfl
theorem nX6_keptLog_keptShelf (S : SX6) (v : Int32) : gX6_keptLog (sX6_keptShelf S v) = gX6_keptLog S := id rfl
theorem nX6_keptSights_keptShelf (S : SX6) (v : Int32) : gX6_keptSights (sX6_keptShelf S v) = gX6_keptSights S := id rfl
theorem nX6_hash_keptShelf (S : SX6) (v : Int32) : gX6_hash (sX6_keptShelf S v) = gX6_hash S := id rfl
theorem nX6_page_keptRoot (S : SX6) (v : Int32) : gX6_page (sX6_keptRoot S v) = gX6_page S := id rfl
theorem nX6_pageMany_keptRoot (S : SX6) (v : Int32) : gX6_pageMany (sX6_keptRoot S v) = gX6_pageMany S := id rfl
theorem nX6_left_keptRoot (S : SX6) (v : Int32) : gX6_left (sX6_keptRoot S v) = gX6_left S := id rfl
theorem nX6_right_keptRoot (S : SX6) (v : Int32) : gX6_right (sX6_keptRoot S v) = gX6_right S := id rfl
theorem nX6_above_keptRoot (S : SX6) (v : Int32) : gX6_above (sX6_keptRoot S v) = gX6_above S := id rfl
theorem nX6_there_keptRoot (S : SX6) (v : Int32) : gX6_there (sX6_keptRoot S v) = gX6_there S := id rfl
theorem nX6_root_keptRoot (S : SX6) (v : Int32) : gX6_root (sX6_keptRoot S v) = gX6_root S := id rfl
theorem nX6_many_keptRoot (S : SX6) (v : Int32) : gX6_many (sX6_keptRoot S v) = gX6_many S := id rfl
theorem nX6_most_keptRoot (S : SX6) (v : Int32) : gX6_most (sX6_keptRoot S v) = gX6_most S := id rfl
theorem nX6_builtNow_keptRoot (S : SX6) (v : Int32) : gX6_builtNow (sX6_keptRoot S v) = gX6_builtNow S := id rfl
theorem nX6_built_keptRoot (S : SX6) (v : Int32) : gX6_built (sX6_keptRoot S v) = gX6_built S := id rfl
theorem nX6_cost_keptRoot (S : SX6) (v : Int32) : gX6_cost (sX6_keptRoot S v) = gX6_cost S := id rfl
theorem nX6_kinds_keptRoot (S : SX6) (v : Int32) : gX6_kinds (sX6_keptRoot S v) = gX6_kinds S := id rfl
theorem nX6_values_keptRoot (S : SX6) (v : Int32) : gX6_values (sX6_keptRoot S v) = gX6_values S := id rfl
theorem nX6_ratioA_keptRoot (S : SX6) (v : Int32) : gX6_ratioA (sX6_keptRoot S v) = gX6_ratioA S := id rfl
theorem nX6_ratioB_keptRoot (S : SX6) (v : Int32) : gX6_ratioB (sX6_keptRoot S v) = gX6_ratioB S := id rfl
theorem nX6_thenA_keptRoot (S : SX6) (v : Int32) : gX6_thenA (sX6_keptRoot S v) = gX6_thenA S := id rfl
theorem nX6_thenB_keptRoot (S : SX6) (v : Int32) : gX6_thenB (sX6_keptRoot S v) = gX6_thenB S := id rfl
theorem nX6_fee_keptRoot (S : SX6) (v : Int32) : gX6_fee (sX6_keptRoot S v) = gX6_fee S := id rfl
theorem nX6_credit_keptRoot (S : SX6) (v : Int32) : gX6_credit (sX6_keptRoot S v) = gX6_credit S := id rfl
theorem nX6_lowest_keptRoot (S : SX6) (v : Int32) : gX6_lowest (sX6_keptRoot S v) = gX6_lowest S := id rfl
theorem nX6_log_keptRoot (S : SX6) (v : Int32) : gX6_log (sX6_keptRoot S v) = gX6_log S := id rfl
theorem nX6_logMany_keptRoot (S : SX6) (v : Int32) : gX6_logMany (sX6_keptRoot S v) = gX6_logMany S := id rfl
theorem nX6_shelvesRead_keptRoot (S : SX6) (v : Int32) : gX6_shelvesRead (sX6_keptRoot S v) = gX6_shelvesRead S := id rfl
theorem nX6_row_keptRoot (S : SX6) (v : Int32) : gX6_row (sX6_keptRoot S v) = gX6_row S := id rfl
theorem nX6_spanLow_keptRoot (S : SX6) (v : Int32) : gX6_spanLow (sX6_keptRoot S v) = gX6_spanLow S := id rfl
theorem nX6_spanHigh_keptRoot (S : SX6) (v : Int32) : gX6_spanHigh (sX6_keptRoot S v) = gX6_spanHigh S := id rfl
theorem nX6_spanOn_keptRoot (S : SX6) (v : Int32) : gX6_spanOn (sX6_keptRoot S v) = gX6_spanOn S := id rfl
theorem nX6_seenMany_keptRoot (S : SX6) (v : Int32) : gX6_seenMany (sX6_keptRoot S v) = gX6_seenMany S := id rfl
theorem nX6_sights_keptRoot (S : SX6) (v : Int32) : gX6_sights (sX6_keptRoot S v) = gX6_sights S := id rfl
theorem nX6_seedNow_keptRoot (S : SX6) (v : Int32) : gX6_seedNow (sX6_keptRoot S v) = gX6_seedNow S := id rfl
theorem nX6_keptShelf_keptRoot (S : SX6) (v : Int32) : gX6_keptShelf (sX6_keptRoot S v) = gX6_keptShelf S := id rfl
theorem nX6_keptRoot_keptRoot (S : SX6) (v : Int32) : gX6_keptRoot (sX6_keptRoot S v) = v := id rfl
theorem nX6_keptMany_keptRoot (S : SX6) (v : Int32) : gX6_keptMany (sX6_keptRoot S v) = gX6_keptMany S := id rfl
theorem nX6_keptMost_keptRoot (S : SX6) (v : Int32) : gX6_keptMost (sX6_keptRoot S v) = gX6_keptMost S := id rfl
theorem nX6_keptBuilt_keptRoot (S : SX6) (v : Int32) : gX6_keptBuilt (sX6_keptRoot S v) = gX6_keptBuilt S := id rfl
theorem nX6_keptCost_keptRoot (S : SX6) (v : Int32) : gX6_keptCost (sX6_keptRoot S v) = gX6_keptCost S := id rfl
theorem nX6_keptCredit_keptRoot (S : SX6) (v : Int32) : gX6_keptCredit (sX6_keptRoot S v) = gX6_keptCredit S := id rfl
theorem nX6_keptLowest_keptRoot (S : SX6) (v : Int32) : gX6_keptLowest (sX6_keptRoot S v) = gX6_keptLowest S := id rfl
theorem nX6_keptLogMany_keptRoot (S : SX6) (v : Int32) : gX6_keptLogMany (sX6_keptRoot S v) = gX6_keptLogMany S := id rfl
theorem nX6_keptSeen_keptRoot (S : SX6) (v : Int32) : gX6_keptSeen (sX6_keptRoot S v) = gX6_keptSeen S := id rfl
theorem nX6_keptLeft_keptRoot (S : SX6) (v : Int32) : gX6_keptLeft (sX6_keptRoot S v) = gX6_keptLeft S := id rfl
theorem nX6_keptRight_keptRoot (S : SX6) (v : Int32) : gX6_keptRight (sX6_keptRoot S v) = gX6_keptRight S := id rfl
theorem nX6_keptAbove_keptRoot (S : SX6) (v : Int32) : gX6_keptAbove (sX6_keptRoot S v) = gX6_keptAbove S := id rfl
theorem nX6_keptThere_keptRoot (S : SX6) (v : Int32) : gX6_keptThere (sX6_keptRoot S v) = gX6_keptThere S := id rfl
theorem nX6_keptKinds_keptRoot (S : SX6) (v : Int32) : gX6_keptKinds (sX6_keptRoot S v) = gX6_keptKinds S := id rfl
theorem nX6_keptValues_keptRoot (S : SX6) (v : Int32) : gX6_keptValues (sX6_keptRoot S v) = gX6_keptValues S := id rfl
theorem nX6_keptLog_keptRoot (S : SX6) (v : Int32) : gX6_keptLog (sX6_keptRoot S v) = gX6_keptLog S := id rfl
theorem nX6_keptSights_keptRoot (S : SX6) (v : Int32) : gX6_keptSights (sX6_keptRoot S v) = gX6_keptSights S := id rfl
theorem nX6_hash_keptRoot (S : SX6) (v : Int32) : gX6_hash (sX6_keptRoot S v) = gX6_hash S := id rfl
theorem nX6_page_keptMany (S : SX6) (v : Int32) : gX6_page (sX6_keptMany S v) = gX6_page S := id rfl
theorem nX6_pageMany_keptMany (S : SX6) (v : Int32) : gX6_pageMany (sX6_keptMany S v) = gX6_pageMany S := id rfl
theorem nX6_left_keptMany (S : SX6) (v : Int32) : gX6_left (sX6_keptMany S v) = gX6_left S := id rfl
theorem nX6_right_keptMany (S : SX6) (v : Int32) : gX6_right (sX6_keptMany S v) = gX6_right S := id rfl
theorem nX6_above_keptMany (S : SX6) (v : Int32) : gX6_above (sX6_keptMany S v) = gX6_above S := id rfl
theorem nX6_there_keptMany (S : SX6) (v : Int32) : gX6_there (sX6_keptMany S v) = gX6_there S := id rfl
theorem nX6_root_keptMany (S : SX6) (v : Int32) : gX6_root (sX6_keptMany S v) = gX6_root S := id rfl
theorem nX6_many_keptMany (S : SX6) (v : Int32) : gX6_many (sX6_keptMany S v) = gX6_many S := id rfl
theorem nX6_most_keptMany (S : SX6) (v : Int32) : gX6_most (sX6_keptMany S v) = gX6_most S := id rfl
theorem nX6_builtNow_keptMany (S : SX6) (v : Int32) : gX6_builtNow (sX6_keptMany S v) = gX6_builtNow S := id rfl
theorem nX6_built_keptMany (S : SX6) (v : Int32) : gX6_built (sX6_keptMany S v) = gX6_built S := id rfl
theorem nX6_cost_keptMany (S : SX6) (v : Int32) : gX6_cost (sX6_keptMany S v) = gX6_cost S := id rfl
theorem nX6_kinds_keptMany (S : SX6) (v : Int32) : gX6_kinds (sX6_keptMany S v) = gX6_kinds S := id rfl
theorem nX6_values_keptMany (S : SX6) (v : Int32) : gX6_values (sX6_keptMany S v) = gX6_values S := id rfl
theorem nX6_ratioA_keptMany (S : SX6) (v : Int32) : gX6_ratioA (sX6_keptMany S v) = gX6_ratioA S := id rfl
theorem nX6_ratioB_keptMany (S : SX6) (v : Int32) : gX6_ratioB (sX6_keptMany S v) = gX6_ratioB S := id rfl
theorem nX6_thenA_keptMany (S : SX6) (v : Int32) : gX6_thenA (sX6_keptMany S v) = gX6_thenA S := id rfl
theorem nX6_thenB_keptMany (S : SX6) (v : Int32) : gX6_thenB (sX6_keptMany S v) = gX6_thenB S := id rfl
theorem nX6_fee_keptMany (S : SX6) (v : Int32) : gX6_fee (sX6_keptMany S v) = gX6_fee S := id rfl
theorem nX6_credit_keptMany (S : SX6) (v : Int32) : gX6_credit (sX6_keptMany S v) = gX6_credit S := id rfl
theorem nX6_lowest_keptMany (S : SX6) (v : Int32) : gX6_lowest (sX6_keptMany S v) = gX6_lowest S := id rfl
theorem nX6_log_keptMany (S : SX6) (v : Int32) : gX6_log (sX6_keptMany S v) = gX6_log S := id rfl
theorem nX6_logMany_keptMany (S : SX6) (v : Int32) : gX6_logMany (sX6_keptMany S v) = gX6_logMany S := id rfl
theorem nX6_shelvesRead_keptMany (S : SX6) (v : Int32) : gX6_shelvesRead (sX6_keptMany S v) = gX6_shelvesRead S := id rfl
theorem nX6_row_keptMany (S : SX6) (v : Int32) : gX6_row (sX6_keptMany S v) = gX6_row S := id rfl
theorem nX6_spanLow_keptMany (S : SX6) (v : Int32) : gX6_spanLow (sX6_keptMany S v) = gX6_spanLow S := id rfl
theorem nX6_spanHigh_keptMany (S : SX6) (v : Int32) : gX6_spanHigh (sX6_keptMany S v) = gX6_spanHigh S := id rfl
theorem nX6_spanOn_keptMany (S : SX6) (v : Int32) : gX6_spanOn (sX6_keptMany S v) = gX6_spanOn S := id rfl
theorem nX6_seenMany_keptMany (S : SX6) (v : Int32) : gX6_seenMany (sX6_keptMany S v) = gX6_seenMany S := id rfl
theorem nX6_sights_keptMany (S : SX6) (v : Int32) : gX6_sights (sX6_keptMany S v) = gX6_sights S := id rfl
theorem nX6_seedNow_keptMany (S : SX6) (v : Int32) : gX6_seedNow (sX6_keptMany S v) = gX6_seedNow S := id rfl
theorem nX6_keptShelf_keptMany (S : SX6) (v : Int32) : gX6_keptShelf (sX6_keptMany S v) = gX6_keptShelf S := id rfl
theorem nX6_keptRoot_keptMany (S : SX6) (v : Int32) : gX6_keptRoot (sX6_keptMany S v) = gX6_keptRoot S := id rfl
theorem nX6_keptMany_keptMany (S : SX6) (v : Int32) : gX6_keptMany (sX6_keptMany S v) = v := id rfl
theorem nX6_keptMost_keptMany (S : SX6) (v : Int32) : gX6_keptMost (sX6_keptMany S v) = gX6_keptMost S := id rfl
theorem nX6_keptBuilt_keptMany (S : SX6) (v : Int32) : gX6_keptBuilt (sX6_keptMany S v) = gX6_keptBuilt S := id rfl
theorem nX6_keptCost_keptMany (S : SX6) (v : Int32) : gX6_keptCost (sX6_keptMany S v) = gX6_keptCost S := id rfl
theorem nX6_keptCredit_keptMany (S : SX6) (v : Int32) : gX6_keptCredit (sX6_keptMany S v) = gX6_keptCredit S := id rfl
theorem nX6_keptLowest_keptMany (S : SX6) (v : Int32) : gX6_keptLowest (sX6_keptMany S v) = gX6_keptLowest S := id rfl
theorem nX6_keptLogMany_keptMany (S : SX6) (v : Int32) : gX6_keptLogMany (sX6_keptMany S v) = gX6_keptLogMany S := id rfl
theorem nX6_keptSeen_keptMany (S : SX6) (v : Int32) : gX6_keptSeen (sX6_keptMany S v) = gX6_keptSeen S := id rfl
theorem nX6_keptLeft_keptMany (S : SX6) (v : Int32) : gX6_keptLeft (sX6_keptMany S v) = gX6_keptLeft S := id rfl
theorem nX6_keptRight_keptMany (S : SX6) (v : Int32) : gX6_keptRight (sX6_keptMany S v) = gX6_keptRight S := id rfl
theorem nX6_keptAbove_keptMany (S : SX6) (v : Int32) : gX6_keptAbove (sX6_keptMany S v) = gX6_keptAbove S := id rfl
theorem nX6_keptThere_keptMany (S : SX6) (v : Int32) : gX6_keptThere (sX6_keptMany S v) = gX6_keptThere S := id rfl
theorem nX6_keptKinds_keptMany (S : SX6) (v : Int32) : gX6_keptKinds (sX6_keptMany S v) = gX6_keptKinds S := id rfl
theorem nX6_keptValues_keptMany (S : SX6) (v : Int32) : gX6_keptValues (sX6_keptMany S v) = gX6_keptValues S := id rfl
theorem nX6_keptLog_keptMany (S : SX6) (v : Int32) : gX6_keptLog (sX6_keptMany S v) = gX6_keptLog S := id rfl
theorem nX6_keptSights_keptMany (S : SX6) (v : Int32) : gX6_keptSights (sX6_keptMany S v) = gX6_keptSights S := id rfl
theorem nX6_hash_keptMany (S : SX6) (v : Int32) : gX6_hash (sX6_keptMany S v) = gX6_hash S := id rfl
theorem nX6_page_keptMost (S : SX6) (v : Int32) : gX6_page (sX6_keptMost S v) = gX6_page S := id rfl
theorem nX6_pageMany_keptMost (S : SX6) (v : Int32) : gX6_pageMany (sX6_keptMost S v) = gX6_pageMany S := id rfl
theorem nX6_left_keptMost (S : SX6) (v : Int32) : gX6_left (sX6_keptMost S v) = gX6_left S := id rfl
theorem nX6_right_keptMost (S : SX6) (v : Int32) : gX6_right (sX6_keptMost S v) = gX6_right S := id rfl
theorem nX6_above_keptMost (S : SX6) (v : Int32) : gX6_above (sX6_keptMost S v) = gX6_above S := id rfl
theorem nX6_there_keptMost (S : SX6) (v : Int32) : gX6_there (sX6_keptMost S v) = gX6_there S := id rfl
theorem nX6_root_keptMost (S : SX6) (v : Int32) : gX6_root (sX6_keptMost S v) = gX6_root S := id rfl
theorem nX6_many_keptMost (S : SX6) (v : Int32) : gX6_many (sX6_keptMost S v) = gX6_many S := id rfl
theorem nX6_most_keptMost (S : SX6) (v : Int32) : gX6_most (sX6_keptMost S v) = gX6_most S := id rfl
theorem nX6_builtNow_keptMost (S : SX6) (v : Int32) : gX6_builtNow (sX6_keptMost S v) = gX6_builtNow S := id rfl
theorem nX6_built_keptMost (S : SX6) (v : Int32) : gX6_built (sX6_keptMost S v) = gX6_built S := id rfl
theorem nX6_cost_keptMost (S : SX6) (v : Int32) : gX6_cost (sX6_keptMost S v) = gX6_cost S := id rfl
theorem nX6_kinds_keptMost (S : SX6) (v : Int32) : gX6_kinds (sX6_keptMost S v) = gX6_kinds S := id rfl
theorem nX6_values_keptMost (S : SX6) (v : Int32) : gX6_values (sX6_keptMost S v) = gX6_values S := id rfl
theorem nX6_ratioA_keptMost (S : SX6) (v : Int32) : gX6_ratioA (sX6_keptMost S v) = gX6_ratioA S := id rfl
theorem nX6_ratioB_keptMost (S : SX6) (v : Int32) : gX6_ratioB (sX6_keptMost S v) = gX6_ratioB S := id rfl
theorem nX6_thenA_keptMost (S : SX6) (v : Int32) : gX6_thenA (sX6_keptMost S v) = gX6_thenA S := id rfl
theorem nX6_thenB_keptMost (S : SX6) (v : Int32) : gX6_thenB (sX6_keptMost S v) = gX6_thenB S := id rfl
theorem nX6_fee_keptMost (S : SX6) (v : Int32) : gX6_fee (sX6_keptMost S v) = gX6_fee S := id rfl
theorem nX6_credit_keptMost (S : SX6) (v : Int32) : gX6_credit (sX6_keptMost S v) = gX6_credit S := id rfl
theorem nX6_lowest_keptMost (S : SX6) (v : Int32) : gX6_lowest (sX6_keptMost S v) = gX6_lowest S := id rfl
theorem nX6_log_keptMost (S : SX6) (v : Int32) : gX6_log (sX6_keptMost S v) = gX6_log S := id rfl
theorem nX6_logMany_keptMost (S : SX6) (v : Int32) : gX6_logMany (sX6_keptMost S v) = gX6_logMany S := id rfl
theorem nX6_shelvesRead_keptMost (S : SX6) (v : Int32) : gX6_shelvesRead (sX6_keptMost S v) = gX6_shelvesRead S := id rfl
theorem nX6_row_keptMost (S : SX6) (v : Int32) : gX6_row (sX6_keptMost S v) = gX6_row S := id rfl
theorem nX6_spanLow_keptMost (S : SX6) (v : Int32) : gX6_spanLow (sX6_keptMost S v) = gX6_spanLow S := id rfl
theorem nX6_spanHigh_keptMost (S : SX6) (v : Int32) : gX6_spanHigh (sX6_keptMost S v) = gX6_spanHigh S := id rfl
theorem nX6_spanOn_keptMost (S : SX6) (v : Int32) : gX6_spanOn (sX6_keptMost S v) = gX6_spanOn S := id rfl
theorem nX6_seenMany_keptMost (S : SX6) (v : Int32) : gX6_seenMany (sX6_keptMost S v) = gX6_seenMany S := id rfl
theorem nX6_sights_keptMost (S : SX6) (v : Int32) : gX6_sights (sX6_keptMost S v) = gX6_sights S := id rfl
theorem nX6_seedNow_keptMost (S : SX6) (v : Int32) : gX6_seedNow (sX6_keptMost S v) = gX6_seedNow S := id rfl
theorem nX6_keptShelf_keptMost (S : SX6) (v : Int32) : gX6_keptShelf (sX6_keptMost S v) = gX6_keptShelf S := id rfl
theorem nX6_keptRoot_keptMost (S : SX6) (v : Int32) : gX6_keptRoot (sX6_keptMost S v) = gX6_keptRoot S := id rfl
theorem nX6_keptMany_keptMost (S : SX6) (v : Int32) : gX6_keptMany (sX6_keptMost S v) = gX6_keptMany S := id rfl
theorem nX6_keptMost_keptMost (S : SX6) (v : Int32) : gX6_keptMost (sX6_keptMost S v) = v := id rfl
theorem nX6_keptBuilt_keptMost (S : SX6) (v : Int32) : gX6_keptBuilt (sX6_keptMost S v) = gX6_keptBuilt S := id rfl
theorem nX6_keptCost_keptMost (S : SX6) (v : Int32) : gX6_keptCost (sX6_keptMost S v) = gX6_keptCost S := id rfl
theorem nX6_keptCredit_keptMost (S : SX6) (v : Int32) : gX6_keptCredit (sX6_keptMost S v) = gX6_keptCredit S := id rfl
theorem nX6_keptLowest_keptMost (S : SX6) (v : Int32) : gX6_keptLowest (sX6_keptMost S v) = gX6_keptLowest S := id rfl
theorem nX6_keptLogMany_keptMost (S : SX6) (v : Int32) : gX6_keptLogMany (sX6_keptMost S v) = gX6_keptLogMany S := id rfl
theorem nX6_keptSeen_keptMost (S : SX6) (v : Int32) : gX6_keptSeen (sX6_keptMost S v) = gX6_keptSeen S := id rfl
theorem nX6_keptLeft_keptMost (S : SX6) (v : Int32) : gX6_keptLeft (sX6_keptMost S v) = gX6_keptLeft S := id rfl
theorem nX6_keptRight_keptMost (S : SX6) (v : Int32) : gX6_keptRight (sX6_keptMost S v) = gX6_keptRight S := id rfl
theorem nX6_keptAbove_keptMost (S : SX6) (v : Int32) : gX6_keptAbove (sX6_keptMost S v) = gX6_keptAbove S := id rfl
theorem nX6_keptThere_keptMost (S : SX6) (v : Int32) : gX6_keptThere (sX6_keptMost S v) = gX6_keptThere S := id rfl
theorem nX6_keptKinds_keptMost (S : SX6) (v : Int32) : gX6_keptKinds (sX6_keptMost S v) = gX6_keptKinds S := id rfl
theorem nX6_keptValues_keptMost (S : SX6) (v : Int32) : gX6_keptValues (sX6_keptMost S v) = gX6_keptValues S := id rfl
theorem nX6_keptLog_keptMost (S : SX6) (v : Int32) : gX6_keptLog (sX6_keptMost S v) = gX6_keptLog S := id rfl
theorem nX6_keptSights_keptMost (S : SX6) (v : Int32) : gX6_keptSights (sX6_keptMost S v) = gX6_keptSights S := id rfl
theorem nX6_hash_keptMost (S : SX6) (v : Int32) : gX6_hash (sX6_keptMost S v) = gX6_hash S := id rfl
theorem nX6_page_keptBuilt (S : SX6) (v : Int32) : gX6_page (sX6_keptBuilt S v) = gX6_page S := id rfl
theorem nX6_pageMany_keptBuilt (S : SX6) (v : Int32) : gX6_pageMany (sX6_keptBuilt S v) = gX6_pageMany S := id rfl
theorem nX6_left_keptBuilt (S : SX6) (v : Int32) : gX6_left (sX6_keptBuilt S v) = gX6_left S := id rfl
theorem nX6_right_keptBuilt (S : SX6) (v : Int32) : gX6_right (sX6_keptBuilt S v) = gX6_right S := id rfl
theorem nX6_above_keptBuilt (S : SX6) (v : Int32) : gX6_above (sX6_keptBuilt S v) = gX6_above S := id rfl
theorem nX6_there_keptBuilt (S : SX6) (v : Int32) : gX6_there (sX6_keptBuilt S v) = gX6_there S := id rfl
theorem nX6_root_keptBuilt (S : SX6) (v : Int32) : gX6_root (sX6_keptBuilt S v) = gX6_root S := id rfl
theorem nX6_many_keptBuilt (S : SX6) (v : Int32) : gX6_many (sX6_keptBuilt S v) = gX6_many S := id rfl
theorem nX6_most_keptBuilt (S : SX6) (v : Int32) : gX6_most (sX6_keptBuilt S v) = gX6_most S := id rfl
theorem nX6_builtNow_keptBuilt (S : SX6) (v : Int32) : gX6_builtNow (sX6_keptBuilt S v) = gX6_builtNow S := id rfl
theorem nX6_built_keptBuilt (S : SX6) (v : Int32) : gX6_built (sX6_keptBuilt S v) = gX6_built S := id rfl
theorem nX6_cost_keptBuilt (S : SX6) (v : Int32) : gX6_cost (sX6_keptBuilt S v) = gX6_cost S := id rfl
theorem nX6_kinds_keptBuilt (S : SX6) (v : Int32) : gX6_kinds (sX6_keptBuilt S v) = gX6_kinds S := id rfl
theorem nX6_values_keptBuilt (S : SX6) (v : Int32) : gX6_values (sX6_keptBuilt S v) = gX6_values S := id rfl
theorem nX6_ratioA_keptBuilt (S : SX6) (v : Int32) : gX6_ratioA (sX6_keptBuilt S v) = gX6_ratioA S := id rfl
theorem nX6_ratioB_keptBuilt (S : SX6) (v : Int32) : gX6_ratioB (sX6_keptBuilt S v) = gX6_ratioB S := id rfl
theorem nX6_thenA_keptBuilt (S : SX6) (v : Int32) : gX6_thenA (sX6_keptBuilt S v) = gX6_thenA S := id rfl
theorem nX6_thenB_keptBuilt (S : SX6) (v : Int32) : gX6_thenB (sX6_keptBuilt S v) = gX6_thenB S := id rfl
theorem nX6_fee_keptBuilt (S : SX6) (v : Int32) : gX6_fee (sX6_keptBuilt S v) = gX6_fee S := id rfl
theorem nX6_credit_keptBuilt (S : SX6) (v : Int32) : gX6_credit (sX6_keptBuilt S v) = gX6_credit S := id rfl
theorem nX6_lowest_keptBuilt (S : SX6) (v : Int32) : gX6_lowest (sX6_keptBuilt S v) = gX6_lowest S := id rfl
theorem nX6_log_keptBuilt (S : SX6) (v : Int32) : gX6_log (sX6_keptBuilt S v) = gX6_log S := id rfl
theorem nX6_logMany_keptBuilt (S : SX6) (v : Int32) : gX6_logMany (sX6_keptBuilt S v) = gX6_logMany S := id rfl
theorem nX6_shelvesRead_keptBuilt (S : SX6) (v : Int32) : gX6_shelvesRead (sX6_keptBuilt S v) = gX6_shelvesRead S := id rfl
theorem nX6_row_keptBuilt (S : SX6) (v : Int32) : gX6_row (sX6_keptBuilt S v) = gX6_row S := id rfl
theorem nX6_spanLow_keptBuilt (S : SX6) (v : Int32) : gX6_spanLow (sX6_keptBuilt S v) = gX6_spanLow S := id rfl
theorem nX6_spanHigh_keptBuilt (S : SX6) (v : Int32) : gX6_spanHigh (sX6_keptBuilt S v) = gX6_spanHigh S := id rfl
theorem nX6_spanOn_keptBuilt (S : SX6) (v : Int32) : gX6_spanOn (sX6_keptBuilt S v) = gX6_spanOn S := id rfl
theorem nX6_seenMany_keptBuilt (S : SX6) (v : Int32) : gX6_seenMany (sX6_keptBuilt S v) = gX6_seenMany S := id rfl
theorem nX6_sights_keptBuilt (S : SX6) (v : Int32) : gX6_sights (sX6_keptBuilt S v) = gX6_sights S := id rfl
theorem nX6_seedNow_keptBuilt (S : SX6) (v : Int32) : gX6_seedNow (sX6_keptBuilt S v) = gX6_seedNow S := id rfl
theorem nX6_keptShelf_keptBuilt (S : SX6) (v : Int32) : gX6_keptShelf (sX6_keptBuilt S v) = gX6_keptShelf S := id rfl
theorem nX6_keptRoot_keptBuilt (S : SX6) (v : Int32) : gX6_keptRoot (sX6_keptBuilt S v) = gX6_keptRoot S := id rfl
theorem nX6_keptMany_keptBuilt (S : SX6) (v : Int32) : gX6_keptMany (sX6_keptBuilt S v) = gX6_keptMany S := id rfl
theorem nX6_keptMost_keptBuilt (S : SX6) (v : Int32) : gX6_keptMost (sX6_keptBuilt S v) = gX6_keptMost S := id rfl
theorem nX6_keptBuilt_keptBuilt (S : SX6) (v : Int32) : gX6_keptBuilt (sX6_keptBuilt S v) = v := id rfl
theorem nX6_keptCost_keptBuilt (S : SX6) (v : Int32) : gX6_keptCost (sX6_keptBuilt S v) = gX6_keptCost S := id rfl
theorem nX6_keptCredit_keptBuilt (S : SX6) (v : Int32) : gX6_keptCredit (sX6_keptBuilt S v) = gX6_keptCredit S := id rfl
theorem nX6_keptLowest_keptBuilt (S : SX6) (v : Int32) : gX6_keptLowest (sX6_keptBuilt S v) = gX6_keptLowest S := id rfl
theorem nX6_keptLogMany_keptBuilt (S : SX6) (v : Int32) : gX6_keptLogMany (sX6_keptBuilt S v) = gX6_keptLogMany S := id rfl
theorem nX6_keptSeen_keptBuilt (S : SX6) (v : Int32) : gX6_keptSeen (sX6_keptBuilt S v) = gX6_keptSeen S := id rfl
theorem nX6_keptLeft_keptBuilt (S : SX6) (v : Int32) : gX6_keptLeft (sX6_keptBuilt S v) = gX6_keptLeft S := id rfl
theorem nX6_keptRight_keptBuilt (S : SX6) (v : Int32) : gX6_keptRight (sX6_keptBuilt S v) = gX6_keptRight S := id rfl
theorem nX6_keptAbove_keptBuilt (S : SX6) (v : Int32) : gX6_keptAbove (sX6_keptBuilt S v) = gX6_keptAbove S := id rfl
theorem nX6_keptThere_keptBuilt (S : SX6) (v : Int32) : gX6_keptThere (sX6_keptBuilt S v) = gX6_keptThere S := id rfl
theorem nX6_keptKinds_keptBuilt (S : SX6) (v : Int32) : gX6_keptKinds (sX6_keptBuilt S v) = gX6_keptKinds S := id rfl
theorem nX6_keptValues_keptBuilt (S : SX6) (v : Int32) : gX6_keptValues (sX6_keptBuilt S v) = gX6_keptValues S := id rfl
theorem nX6_keptLog_keptBuilt (S : SX6) (v : Int32) : gX6_keptLog (sX6_keptBuilt S v) = gX6_keptLog S := id rfl
theorem nX6_keptSights_keptBuilt (S : SX6) (v : Int32) : gX6_keptSights (sX6_keptBuilt S v) = gX6_keptSights S := id rfl
theorem nX6_hash_keptBuilt (S : SX6) (v : Int32) : gX6_hash (sX6_keptBuilt S v) = gX6_hash S := id rfl
theorem nX6_page_keptCost (S : SX6) (v : Int32) : gX6_page (sX6_keptCost S v) = gX6_page S := id rfl
theorem nX6_pageMany_keptCost (S : SX6) (v : Int32) : gX6_pageMany (sX6_keptCost S v) = gX6_pageMany S := id rfl
theorem nX6_left_keptCost (S : SX6) (v : Int32) : gX6_left (sX6_keptCost S v) = gX6_left S := id rfl
theorem nX6_right_keptCost (S : SX6) (v : Int32) : gX6_right (sX6_keptCost S v) = gX6_right S := id rfl
theorem nX6_above_keptCost (S : SX6) (v : Int32) : gX6_above (sX6_keptCost S v) = gX6_above S := id rfl
theorem nX6_there_keptCost (S : SX6) (v : Int32) : gX6_there (sX6_keptCost S v) = gX6_there S := id rfl
theorem nX6_root_keptCost (S : SX6) (v : Int32) : gX6_root (sX6_keptCost S v) = gX6_root S := id rfl
theorem nX6_many_keptCost (S : SX6) (v : Int32) : gX6_many (sX6_keptCost S v) = gX6_many S := id rfl
theorem nX6_most_keptCost (S : SX6) (v : Int32) : gX6_most (sX6_keptCost S v) = gX6_most S := id rfl
theorem nX6_builtNow_keptCost (S : SX6) (v : Int32) : gX6_builtNow (sX6_keptCost S v) = gX6_builtNow S := id rfl
theorem nX6_built_keptCost (S : SX6) (v : Int32) : gX6_built (sX6_keptCost S v) = gX6_built S := id rfl
theorem nX6_cost_keptCost (S : SX6) (v : Int32) : gX6_cost (sX6_keptCost S v) = gX6_cost S := id rfl
theorem nX6_kinds_keptCost (S : SX6) (v : Int32) : gX6_kinds (sX6_keptCost S v) = gX6_kinds S := id rfl
theorem nX6_values_keptCost (S : SX6) (v : Int32) : gX6_values (sX6_keptCost S v) = gX6_values S := id rfl
theorem nX6_ratioA_keptCost (S : SX6) (v : Int32) : gX6_ratioA (sX6_keptCost S v) = gX6_ratioA S := id rfl
theorem nX6_ratioB_keptCost (S : SX6) (v : Int32) : gX6_ratioB (sX6_keptCost S v) = gX6_ratioB S := id rfl
theorem nX6_thenA_keptCost (S : SX6) (v : Int32) : gX6_thenA (sX6_keptCost S v) = gX6_thenA S := id rfl
theorem nX6_thenB_keptCost (S : SX6) (v : Int32) : gX6_thenB (sX6_keptCost S v) = gX6_thenB S := id rfl
theorem nX6_fee_keptCost (S : SX6) (v : Int32) : gX6_fee (sX6_keptCost S v) = gX6_fee S := id rfl
theorem nX6_credit_keptCost (S : SX6) (v : Int32) : gX6_credit (sX6_keptCost S v) = gX6_credit S := id rfl
theorem nX6_lowest_keptCost (S : SX6) (v : Int32) : gX6_lowest (sX6_keptCost S v) = gX6_lowest S := id rfl
theorem nX6_log_keptCost (S : SX6) (v : Int32) : gX6_log (sX6_keptCost S v) = gX6_log S := id rfl
theorem nX6_logMany_keptCost (S : SX6) (v : Int32) : gX6_logMany (sX6_keptCost S v) = gX6_logMany S := id rfl
theorem nX6_shelvesRead_keptCost (S : SX6) (v : Int32) : gX6_shelvesRead (sX6_keptCost S v) = gX6_shelvesRead S := id rfl
theorem nX6_row_keptCost (S : SX6) (v : Int32) : gX6_row (sX6_keptCost S v) = gX6_row S := id rfl
theorem nX6_spanLow_keptCost (S : SX6) (v : Int32) : gX6_spanLow (sX6_keptCost S v) = gX6_spanLow S := id rfl
theorem nX6_spanHigh_keptCost (S : SX6) (v : Int32) : gX6_spanHigh (sX6_keptCost S v) = gX6_spanHigh S := id rfl
theorem nX6_spanOn_keptCost (S : SX6) (v : Int32) : gX6_spanOn (sX6_keptCost S v) = gX6_spanOn S := id rfl
theorem nX6_seenMany_keptCost (S : SX6) (v : Int32) : gX6_seenMany (sX6_keptCost S v) = gX6_seenMany S := id rfl
theorem nX6_sights_keptCost (S : SX6) (v : Int32) : gX6_sights (sX6_keptCost S v) = gX6_sights S := id rfl
theorem nX6_seedNow_keptCost (S : SX6) (v : Int32) : gX6_seedNow (sX6_keptCost S v) = gX6_seedNow S := id rfl
theorem nX6_keptShelf_keptCost (S : SX6) (v : Int32) : gX6_keptShelf (sX6_keptCost S v) = gX6_keptShelf S := id rfl
theorem nX6_keptRoot_keptCost (S : SX6) (v : Int32) : gX6_keptRoot (sX6_keptCost S v) = gX6_keptRoot S := id rfl
theorem nX6_keptMany_keptCost (S : SX6) (v : Int32) : gX6_keptMany (sX6_keptCost S v) = gX6_keptMany S := id rfl
theorem nX6_keptMost_keptCost (S : SX6) (v : Int32) : gX6_keptMost (sX6_keptCost S v) = gX6_keptMost S := id rfl
theorem nX6_keptBuilt_keptCost (S : SX6) (v : Int32) : gX6_keptBuilt (sX6_keptCost S v) = gX6_keptBuilt S := id rfl
theorem nX6_keptCost_keptCost (S : SX6) (v : Int32) : gX6_keptCost (sX6_keptCost S v) = v := id rfl
theorem nX6_keptCredit_keptCost (S : SX6) (v : Int32) : gX6_keptCredit (sX6_keptCost S v) = gX6_keptCredit S := id rfl
theorem nX6_keptLowest_keptCost (S : SX6) (v : Int32) : gX6_keptLowest (sX6_keptCost S v) = gX6_keptLowest S := id rfl
theorem nX6_keptLogMany_keptCost (S : SX6) (v : Int32) : gX6_keptLogMany (sX6_keptCost S v) = gX6_keptLogMany S := id rfl
theorem nX6_keptSeen_keptCost (S : SX6) (v : Int32) : gX6_keptSeen (sX6_keptCost S v) = gX6_keptSeen S := id rfl
theorem nX6_keptLeft_keptCost (S : SX6) (v : Int32) : gX6_keptLeft (sX6_keptCost S v) = gX6_keptLeft S := id rfl
theorem nX6_keptRight_keptCost (S : SX6) (v : Int32) : gX6_keptRight (sX6_keptCost S v) = gX6_keptRight S := id rfl
theorem nX6_keptAbove_keptCost (S : SX6) (v : Int32) : gX6_keptAbove (sX6_keptCost S v) = gX6_keptAbove S := id rfl
theorem nX6_keptThere_keptCost (S : SX6) (v : Int32) : gX6_keptThere (sX6_keptCost S v) = gX6_keptThere S := id rfl
theorem nX6_keptKinds_keptCost (S : SX6) (v : Int32) : gX6_keptKinds (sX6_keptCost S v) = gX6_keptKinds S := id rfl
theorem nX6_keptValues_keptCost (S : SX6) (v : Int32) : gX6_keptValues (sX6_keptCost S v) = gX6_keptValues S := id rfl
theorem nX6_keptLog_keptCost (S : SX6) (v : Int32) : gX6_keptLog (sX6_keptCost S v) = gX6_keptLog S := id rfl
theorem nX6_keptSights_keptCost (S : SX6) (v : Int32) : gX6_keptSights (sX6_keptCost S v) = gX6_keptSights S := id rfl
theorem nX6_hash_keptCost (S : SX6) (v : Int32) : gX6_hash (sX6_keptCost S v) = gX6_hash S := id rfl
theorem nX6_page_keptCredit (S : SX6) (v : Int32) : gX6_page (sX6_keptCredit S v) = gX6_page S := id rfl
theorem nX6_pageMany_keptCredit (S : SX6) (v : Int32) : gX6_pageMany (sX6_keptCredit S v) = gX6_pageMany S := id rfl
theorem nX6_left_keptCredit (S : SX6) (v : Int32) : gX6_left (sX6_keptCredit S v) = gX6_left S := id rfl
theorem nX6_right_keptCredit (S : SX6) (v : Int32) : gX6_right (sX6_keptCredit S v) = gX6_right S := id rfl
theorem nX6_above_keptCredit (S : SX6) (v : Int32) : gX6_above (sX6_keptCredit S v) = gX6_above S := id rfl
theorem nX6_there_keptCredit (S : SX6) (v : Int32) : gX6_there (sX6_keptCredit S v) = gX6_there S := id rfl
theorem nX6_root_keptCredit (S : SX6) (v : Int32) : gX6_root (sX6_keptCredit S v) = gX6_root S := id rfl
theorem nX6_many_keptCredit (S : SX6) (v : Int32) : gX6_many (sX6_keptCredit S v) = gX6_many S := id rfl
theorem nX6_most_keptCredit (S : SX6) (v : Int32) : gX6_most (sX6_keptCredit S v) = gX6_most S := id rfl
theorem nX6_builtNow_keptCredit (S : SX6) (v : Int32) : gX6_builtNow (sX6_keptCredit S v) = gX6_builtNow S := id rfl
theorem nX6_built_keptCredit (S : SX6) (v : Int32) : gX6_built (sX6_keptCredit S v) = gX6_built S := id rfl
theorem nX6_cost_keptCredit (S : SX6) (v : Int32) : gX6_cost (sX6_keptCredit S v) = gX6_cost S := id rfl
theorem nX6_kinds_keptCredit (S : SX6) (v : Int32) : gX6_kinds (sX6_keptCredit S v) = gX6_kinds S := id rfl
theorem nX6_values_keptCredit (S : SX6) (v : Int32) : gX6_values (sX6_keptCredit S v) = gX6_values S := id rfl
theorem nX6_ratioA_keptCredit (S : SX6) (v : Int32) : gX6_ratioA (sX6_keptCredit S v) = gX6_ratioA S := id rfl
theorem nX6_ratioB_keptCredit (S : SX6) (v : Int32) : gX6_ratioB (sX6_keptCredit S v) = gX6_ratioB S := id rfl
theorem nX6_thenA_keptCredit (S : SX6) (v : Int32) : gX6_thenA (sX6_keptCredit S v) = gX6_thenA S := id rfl
theorem nX6_thenB_keptCredit (S : SX6) (v : Int32) : gX6_thenB (sX6_keptCredit S v) = gX6_thenB S := id rfl
theorem nX6_fee_keptCredit (S : SX6) (v : Int32) : gX6_fee (sX6_keptCredit S v) = gX6_fee S := id rfl
theorem nX6_credit_keptCredit (S : SX6) (v : Int32) : gX6_credit (sX6_keptCredit S v) = gX6_credit S := id rfl
theorem nX6_lowest_keptCredit (S : SX6) (v : Int32) : gX6_lowest (sX6_keptCredit S v) = gX6_lowest S := id rfl
theorem nX6_log_keptCredit (S : SX6) (v : Int32) : gX6_log (sX6_keptCredit S v) = gX6_log S := id rfl
theorem nX6_logMany_keptCredit (S : SX6) (v : Int32) : gX6_logMany (sX6_keptCredit S v) = gX6_logMany S := id rfl
theorem nX6_shelvesRead_keptCredit (S : SX6) (v : Int32) : gX6_shelvesRead (sX6_keptCredit S v) = gX6_shelvesRead S := id rfl
theorem nX6_row_keptCredit (S : SX6) (v : Int32) : gX6_row (sX6_keptCredit S v) = gX6_row S := id rfl
theorem nX6_spanLow_keptCredit (S : SX6) (v : Int32) : gX6_spanLow (sX6_keptCredit S v) = gX6_spanLow S := id rfl
theorem nX6_spanHigh_keptCredit (S : SX6) (v : Int32) : gX6_spanHigh (sX6_keptCredit S v) = gX6_spanHigh S := id rfl
theorem nX6_spanOn_keptCredit (S : SX6) (v : Int32) : gX6_spanOn (sX6_keptCredit S v) = gX6_spanOn S := id rfl
theorem nX6_seenMany_keptCredit (S : SX6) (v : Int32) : gX6_seenMany (sX6_keptCredit S v) = gX6_seenMany S := id rfl
theorem nX6_sights_keptCredit (S : SX6) (v : Int32) : gX6_sights (sX6_keptCredit S v) = gX6_sights S := id rfl
theorem nX6_seedNow_keptCredit (S : SX6) (v : Int32) : gX6_seedNow (sX6_keptCredit S v) = gX6_seedNow S := id rfl
theorem nX6_keptShelf_keptCredit (S : SX6) (v : Int32) : gX6_keptShelf (sX6_keptCredit S v) = gX6_keptShelf S := id rfl
theorem nX6_keptRoot_keptCredit (S : SX6) (v : Int32) : gX6_keptRoot (sX6_keptCredit S v) = gX6_keptRoot S := id rfl
theorem nX6_keptMany_keptCredit (S : SX6) (v : Int32) : gX6_keptMany (sX6_keptCredit S v) = gX6_keptMany S := id rfl
theorem nX6_keptMost_keptCredit (S : SX6) (v : Int32) : gX6_keptMost (sX6_keptCredit S v) = gX6_keptMost S := id rfl
theorem nX6_keptBuilt_keptCredit (S : SX6) (v : Int32) : gX6_keptBuilt (sX6_keptCredit S v) = gX6_keptBuilt S := id rfl
theorem nX6_keptCost_keptCredit (S : SX6) (v : Int32) : gX6_keptCost (sX6_keptCredit S v) = gX6_keptCost S := id rfl
theorem nX6_keptCredit_keptCredit (S : SX6) (v : Int32) : gX6_keptCredit (sX6_keptCredit S v) = v := id rfl
theorem nX6_keptLowest_keptCredit (S : SX6) (v : Int32) : gX6_keptLowest (sX6_keptCredit S v) = gX6_keptLowest S := id rfl
theorem nX6_keptLogMany_keptCredit (S : SX6) (v : Int32) : gX6_keptLogMany (sX6_keptCredit S v) = gX6_keptLogMany S := id rfl
theorem nX6_keptSeen_keptCredit (S : SX6) (v : Int32) : gX6_keptSeen (sX6_keptCredit S v) = gX6_keptSeen S := id rfl
theorem nX6_keptLeft_keptCredit (S : SX6) (v : Int32) : gX6_keptLeft (sX6_keptCredit S v) = gX6_keptLeft S := id rfl
theorem nX6_keptRight_keptCredit (S : SX6) (v : Int32) : gX6_keptRight (sX6_keptCredit S v) = gX6_keptRight S := id rfl
theorem nX6_keptAbove_keptCredit (S : SX6) (v : Int32) : gX6_keptAbove (sX6_keptCredit S v) = gX6_keptAbove S := id rfl
theorem nX6_keptThere_keptCredit (S : SX6) (v : Int32) : gX6_keptThere (sX6_keptCredit S v) = gX6_keptThere S := id rfl
theorem nX6_keptKinds_keptCredit (S : SX6) (v : Int32) : gX6_keptKinds (sX6_keptCredit S v) = gX6_keptKinds S := id rfl
theorem nX6_keptValues_keptCredit (S : SX6) (v : Int32) : gX6_keptValues (sX6_keptCredit S v) = gX6_keptValues S := id rfl
theorem nX6_keptLog_keptCredit (S : SX6) (v : Int32) : gX6_keptLog (sX6_keptCredit S v) = gX6_keptLog S := id rfl
theorem nX6_keptSights_keptCredit (S : SX6) (v : Int32) : gX6_keptSights (sX6_keptCredit S v) = gX6_keptSights S := id rfl
theorem nX6_hash_keptCredit (S : SX6) (v : Int32) : gX6_hash (sX6_keptCredit S v) = gX6_hash S := id rfl
theorem nX6_page_keptLowest (S : SX6) (v : Int32) : gX6_page (sX6_keptLowest S v) = gX6_page S := id rfl
theorem nX6_pageMany_keptLowest (S : SX6) (v : Int32) : gX6_pageMany (sX6_keptLowest S v) = gX6_pageMany S := id rfl
theorem nX6_left_keptLowest (S : SX6) (v : Int32) : gX6_left (sX6_keptLowest S v) = gX6_left S := id rfl
theorem nX6_right_keptLowest (S : SX6) (v : Int32) : gX6_right (sX6_keptLowest S v) = gX6_right S := id rfl
theorem nX6_above_keptLowest (S : SX6) (v : Int32) : gX6_above (sX6_keptLowest S v) = gX6_above S := id rfl
theorem nX6_there_keptLowest (S : SX6) (v : Int32) : gX6_there (sX6_keptLowest S v) = gX6_there S := id rfl
theorem nX6_root_keptLowest (S : SX6) (v : Int32) : gX6_root (sX6_keptLowest S v) = gX6_root S := id rfl
theorem nX6_many_keptLowest (S : SX6) (v : Int32) : gX6_many (sX6_keptLowest S v) = gX6_many S := id rfl
theorem nX6_most_keptLowest (S : SX6) (v : Int32) : gX6_most (sX6_keptLowest S v) = gX6_most S := id rfl
theorem nX6_builtNow_keptLowest (S : SX6) (v : Int32) : gX6_builtNow (sX6_keptLowest S v) = gX6_builtNow S := id rfl
theorem nX6_built_keptLowest (S : SX6) (v : Int32) : gX6_built (sX6_keptLowest S v) = gX6_built S := id rfl
theorem nX6_cost_keptLowest (S : SX6) (v : Int32) : gX6_cost (sX6_keptLowest S v) = gX6_cost S := id rfl
theorem nX6_kinds_keptLowest (S : SX6) (v : Int32) : gX6_kinds (sX6_keptLowest S v) = gX6_kinds S := id rfl
theorem nX6_values_keptLowest (S : SX6) (v : Int32) : gX6_values (sX6_keptLowest S v) = gX6_values S := id rfl
theorem nX6_ratioA_keptLowest (S : SX6) (v : Int32) : gX6_ratioA (sX6_keptLowest S v) = gX6_ratioA S := id rfl
theorem nX6_ratioB_keptLowest (S : SX6) (v : Int32) : gX6_ratioB (sX6_keptLowest S v) = gX6_ratioB S := id rfl
theorem nX6_thenA_keptLowest (S : SX6) (v : Int32) : gX6_thenA (sX6_keptLowest S v) = gX6_thenA S := id rfl
theorem nX6_thenB_keptLowest (S : SX6) (v : Int32) : gX6_thenB (sX6_keptLowest S v) = gX6_thenB S := id rfl
theorem nX6_fee_keptLowest (S : SX6) (v : Int32) : gX6_fee (sX6_keptLowest S v) = gX6_fee S := id rfl
theorem nX6_credit_keptLowest (S : SX6) (v : Int32) : gX6_credit (sX6_keptLowest S v) = gX6_credit S := id rfl
theorem nX6_lowest_keptLowest (S : SX6) (v : Int32) : gX6_lowest (sX6_keptLowest S v) = gX6_lowest S := id rfl
theorem nX6_log_keptLowest (S : SX6) (v : Int32) : gX6_log (sX6_keptLowest S v) = gX6_log S := id rfl
theorem nX6_logMany_keptLowest (S : SX6) (v : Int32) : gX6_logMany (sX6_keptLowest S v) = gX6_logMany S := id rfl
theorem nX6_shelvesRead_keptLowest (S : SX6) (v : Int32) : gX6_shelvesRead (sX6_keptLowest S v) = gX6_shelvesRead S := id rfl
theorem nX6_row_keptLowest (S : SX6) (v : Int32) : gX6_row (sX6_keptLowest S v) = gX6_row S := id rfl
theorem nX6_spanLow_keptLowest (S : SX6) (v : Int32) : gX6_spanLow (sX6_keptLowest S v) = gX6_spanLow S := id rfl
theorem nX6_spanHigh_keptLowest (S : SX6) (v : Int32) : gX6_spanHigh (sX6_keptLowest S v) = gX6_spanHigh S := id rfl
theorem nX6_spanOn_keptLowest (S : SX6) (v : Int32) : gX6_spanOn (sX6_keptLowest S v) = gX6_spanOn S := id rfl
theorem nX6_seenMany_keptLowest (S : SX6) (v : Int32) : gX6_seenMany (sX6_keptLowest S v) = gX6_seenMany S := id rfl
theorem nX6_sights_keptLowest (S : SX6) (v : Int32) : gX6_sights (sX6_keptLowest S v) = gX6_sights S := id rfl
theorem nX6_seedNow_keptLowest (S : SX6) (v : Int32) : gX6_seedNow (sX6_keptLowest S v) = gX6_seedNow S := id rfl
theorem nX6_keptShelf_keptLowest (S : SX6) (v : Int32) : gX6_keptShelf (sX6_keptLowest S v) = gX6_keptShelf S := id rfl
theorem nX6_keptRoot_keptLowest (S : SX6) (v : Int32) : gX6_keptRoot (sX6_keptLowest S v) = gX6_keptRoot S := id rfl
theorem nX6_keptMany_keptLowest (S : SX6) (v : Int32) : gX6_keptMany (sX6_keptLowest S v) = gX6_keptMany S := id rfl
theorem nX6_keptMost_keptLowest (S : SX6) (v : Int32) : gX6_keptMost (sX6_keptLowest S v) = gX6_keptMost S := id rfl
theorem nX6_keptBuilt_keptLowest (S : SX6) (v : Int32) : gX6_keptBuilt (sX6_keptLowest S v) = gX6_keptBuilt S := id rfl
theorem nX6_keptCost_keptLowest (S : SX6) (v : Int32) : gX6_keptCost (sX6_keptLowest S v) = gX6_keptCost S := id rfl
theorem nX6_keptCredit_keptLowest (S : SX6) (v : Int32) : gX6_keptCredit (sX6_keptLowest S v) = gX6_keptCredit S := id rfl
theorem nX6_keptLowest_keptLowest (S : SX6) (v : Int32) : gX6_keptLowest (sX6_keptLowest S v) = v := id rfl
theorem nX6_keptLogMany_keptLowest (S : SX6) (v : Int32) : gX6_keptLogMany (sX6_keptLowest S v) = gX6_keptLogMany S := id rfl
theorem nX6_keptSeen_keptLowest (S : SX6) (v : Int32) : gX6_keptSeen (sX6_keptLowest S v) = gX6_keptSeen S := id rfl
theorem nX6_keptLeft_keptLowest (S : SX6) (v : Int32) : gX6_keptLeft (sX6_keptLowest S v) = gX6_keptLeft S := id rfl
theorem nX6_keptRight_keptLowest (S : SX6) (v : Int32) : gX6_keptRight (sX6_keptLowest S v) = gX6_keptRight S := id rfl
theorem nX6_keptAbove_keptLowest (S : SX6) (v : Int32) : gX6_keptAbove (sX6_keptLowest S v) = gX6_keptAbove S := id rfl
theorem nX6_keptThere_keptLowest (S : SX6) (v : Int32) : gX6_keptThere (sX6_keptLowest S v) = gX6_keptThere S := id rfl
theorem nX6_keptKinds_keptLowest (S : SX6) (v : Int32) : gX6_keptKinds (sX6_keptLowest S v) = gX6_keptKinds S := id rfl
theorem nX6_keptValues_keptLowest (S : SX6) (v : Int32) : gX6_keptValues (sX6_keptLowest S v) = gX6_keptValues S := id rfl
theorem nX6_keptLog_keptLowest (S : SX6) (v : Int32) : gX6_keptLog (sX6_keptLowest S v) = gX6_keptLog S := id rfl
theorem nX6_keptSights_keptLowest (S : SX6) (v : Int32) : gX6_keptSights (sX6_keptLowest S v) = gX6_keptSights S := id rfl
theorem nX6_hash_keptLowest (S : SX6) (v : Int32) : gX6_hash (sX6_keptLowest S v) = gX6_hash S := id rfl
theorem nX6_page_keptLogMany (S : SX6) (v : Int32) : gX6_page (sX6_keptLogMany S v) = gX6_page S := id rfl
theorem nX6_pageMany_keptLogMany (S : SX6) (v : Int32) : gX6_pageMany (sX6_keptLogMany S v) = gX6_pageMany S := id rfl
theorem nX6_left_keptLogMany (S : SX6) (v : Int32) : gX6_left (sX6_keptLogMany S v) = gX6_left S := id rfl
theorem nX6_right_keptLogMany (S : SX6) (v : Int32) : gX6_right (sX6_keptLogMany S v) = gX6_right S := id rfl
theorem nX6_above_keptLogMany (S : SX6) (v : Int32) : gX6_above (sX6_keptLogMany S v) = gX6_above S := id rfl
theorem nX6_there_keptLogMany (S : SX6) (v : Int32) : gX6_there (sX6_keptLogMany S v) = gX6_there S := id rfl
theorem nX6_root_keptLogMany (S : SX6) (v : Int32) : gX6_root (sX6_keptLogMany S v) = gX6_root S := id rfl
theorem nX6_many_keptLogMany (S : SX6) (v : Int32) : gX6_many (sX6_keptLogMany S v) = gX6_many S := id rfl
theorem nX6_most_keptLogMany (S : SX6) (v : Int32) : gX6_most (sX6_keptLogMany S v) = gX6_most S := id rfl
theorem nX6_builtNow_keptLogMany (S : SX6) (v : Int32) : gX6_builtNow (sX6_keptLogMany S v) = gX6_builtNow S := id rfl
theorem nX6_built_keptLogMany (S : SX6) (v : Int32) : gX6_built (sX6_keptLogMany S v) = gX6_built S := id rfl
theorem nX6_cost_keptLogMany (S : SX6) (v : Int32) : gX6_cost (sX6_keptLogMany S v) = gX6_cost S := id rfl
theorem nX6_kinds_keptLogMany (S : SX6) (v : Int32) : gX6_kinds (sX6_keptLogMany S v) = gX6_kinds S := id rfl
theorem nX6_values_keptLogMany (S : SX6) (v : Int32) : gX6_values (sX6_keptLogMany S v) = gX6_values S := id rfl
theorem nX6_ratioA_keptLogMany (S : SX6) (v : Int32) : gX6_ratioA (sX6_keptLogMany S v) = gX6_ratioA S := id rfl
theorem nX6_ratioB_keptLogMany (S : SX6) (v : Int32) : gX6_ratioB (sX6_keptLogMany S v) = gX6_ratioB S := id rfl
theorem nX6_thenA_keptLogMany (S : SX6) (v : Int32) : gX6_thenA (sX6_keptLogMany S v) = gX6_thenA S := id rfl
theorem nX6_thenB_keptLogMany (S : SX6) (v : Int32) : gX6_thenB (sX6_keptLogMany S v) = gX6_thenB S := id rfl
theorem nX6_fee_keptLogMany (S : SX6) (v : Int32) : gX6_fee (sX6_keptLogMany S v) = gX6_fee S := id rfl
theorem nX6_credit_keptLogMany (S : SX6) (v : Int32) : gX6_credit (sX6_keptLogMany S v) = gX6_credit S := id rfl
theorem nX6_lowest_keptLogMany (S : SX6) (v : Int32) : gX6_lowest (sX6_keptLogMany S v) = gX6_lowest S := id rfl
theorem nX6_log_keptLogMany (S : SX6) (v : Int32) : gX6_log (sX6_keptLogMany S v) = gX6_log S := id rfl
theorem nX6_logMany_keptLogMany (S : SX6) (v : Int32) : gX6_logMany (sX6_keptLogMany S v) = gX6_logMany S := id rfl
theorem nX6_shelvesRead_keptLogMany (S : SX6) (v : Int32) : gX6_shelvesRead (sX6_keptLogMany S v) = gX6_shelvesRead S := id rfl
theorem nX6_row_keptLogMany (S : SX6) (v : Int32) : gX6_row (sX6_keptLogMany S v) = gX6_row S := id rfl
theorem nX6_spanLow_keptLogMany (S : SX6) (v : Int32) : gX6_spanLow (sX6_keptLogMany S v) = gX6_spanLow S := id rfl
theorem nX6_spanHigh_keptLogMany (S : SX6) (v : Int32) : gX6_spanHigh (sX6_keptLogMany S v) = gX6_spanHigh S := id rfl
theorem nX6_spanOn_keptLogMany (S : SX6) (v : Int32) : gX6_spanOn (sX6_keptLogMany S v) = gX6_spanOn S := id rfl
theorem nX6_seenMany_keptLogMany (S : SX6) (v : Int32) : gX6_seenMany (sX6_keptLogMany S v) = gX6_seenMany S := id rfl
theorem nX6_sights_keptLogMany (S : SX6) (v : Int32) : gX6_sights (sX6_keptLogMany S v) = gX6_sights S := id rfl
theorem nX6_seedNow_keptLogMany (S : SX6) (v : Int32) : gX6_seedNow (sX6_keptLogMany S v) = gX6_seedNow S := id rfl
theorem nX6_keptShelf_keptLogMany (S : SX6) (v : Int32) : gX6_keptShelf (sX6_keptLogMany S v) = gX6_keptShelf S := id rfl
theorem nX6_keptRoot_keptLogMany (S : SX6) (v : Int32) : gX6_keptRoot (sX6_keptLogMany S v) = gX6_keptRoot S := id rfl
theorem nX6_keptMany_keptLogMany (S : SX6) (v : Int32) : gX6_keptMany (sX6_keptLogMany S v) = gX6_keptMany S := id rfl
theorem nX6_keptMost_keptLogMany (S : SX6) (v : Int32) : gX6_keptMost (sX6_keptLogMany S v) = gX6_keptMost S := id rfl
theorem nX6_keptBuilt_keptLogMany (S : SX6) (v : Int32) : gX6_keptBuilt (sX6_keptLogMany S v) = gX6_keptBuilt S := id rfl
theorem nX6_keptCost_keptLogMany (S : SX6) (v : Int32) : gX6_keptCost (sX6_keptLogMany S v) = gX6_keptCost S := id rfl
theorem nX6_keptCredit_keptLogMany (S : SX6) (v : Int32) : gX6_keptCredit (sX6_keptLogMany S v) = gX6_keptCredit S := id rfl
theorem nX6_keptLowest_keptLogMany (S : SX6) (v : Int32) : gX6_keptLowest (sX6_keptLogMany S v) = gX6_keptLowest S := id rfl
theorem nX6_keptLogMany_keptLogMany (S : SX6) (v : Int32) : gX6_keptLogMany (sX6_keptLogMany S v) = v := id rfl
theorem nX6_keptSeen_keptLogMany (S : SX6) (v : Int32) : gX6_keptSeen (sX6_keptLogMany S v) = gX6_keptSeen S := id rfl
theorem nX6_keptLeft_keptLogMany (S : SX6) (v : Int32) : gX6_keptLeft (sX6_keptLogMany S v) = gX6_keptLeft S := id rfl
theorem nX6_keptRight_keptLogMany (S : SX6) (v : Int32) : gX6_keptRight (sX6_keptLogMany S v) = gX6_keptRight S := id rfl
theorem nX6_keptAbove_keptLogMany (S : SX6) (v : Int32) : gX6_keptAbove (sX6_keptLogMany S v) = gX6_keptAbove S := id rfl
theorem nX6_keptThere_keptLogMany (S : SX6) (v : Int32) : gX6_keptThere (sX6_keptLogMany S v) = gX6_keptThere S := id rfl
theorem nX6_keptKinds_keptLogMany (S : SX6) (v : Int32) : gX6_keptKinds (sX6_keptLogMany S v) = gX6_keptKinds S := id rfl
theorem nX6_keptValues_keptLogMany (S : SX6) (v : Int32) : gX6_keptValues (sX6_keptLogMany S v) = gX6_keptValues S := id rfl
theorem nX6_keptLog_keptLogMany (S : SX6) (v : Int32) : gX6_keptLog (sX6_keptLogMany S v) = gX6_keptLog S := id rfl
theorem nX6_keptSights_keptLogMany (S : SX6) (v : Int32) : gX6_keptSights (sX6_keptLogMany S v) = gX6_keptSights S := id rfl
theorem nX6_hash_keptLogMany (S : SX6) (v : Int32) : gX6_hash (sX6_keptLogMany S v) = gX6_hash S := id rfl
theorem nX6_page_keptSeen (S : SX6) (v : Int32) : gX6_page (sX6_keptSeen S v) = gX6_page S := id rfl
theorem nX6_pageMany_keptSeen (S : SX6) (v : Int32) : gX6_pageMany (sX6_keptSeen S v) = gX6_pageMany S := id rfl
theorem nX6_left_keptSeen (S : SX6) (v : Int32) : gX6_left (sX6_keptSeen S v) = gX6_left S := id rfl
theorem nX6_right_keptSeen (S : SX6) (v : Int32) : gX6_right (sX6_keptSeen S v) = gX6_right S := id rfl
theorem nX6_above_keptSeen (S : SX6) (v : Int32) : gX6_above (sX6_keptSeen S v) = gX6_above S := id rfl
theorem nX6_there_keptSeen (S : SX6) (v : Int32) : gX6_there (sX6_keptSeen S v) = gX6_there S := id rfl
theorem nX6_root_keptSeen (S : SX6) (v : Int32) : gX6_root (sX6_keptSeen S v) = gX6_root S := id rfl
theorem nX6_many_keptSeen (S : SX6) (v : Int32) : gX6_many (sX6_keptSeen S v) = gX6_many S := id rfl
theorem nX6_most_keptSeen (S : SX6) (v : Int32) : gX6_most (sX6_keptSeen S v) = gX6_most S := id rfl
theorem nX6_builtNow_keptSeen (S : SX6) (v : Int32) : gX6_builtNow (sX6_keptSeen S v) = gX6_builtNow S := id rfl
theorem nX6_built_keptSeen (S : SX6) (v : Int32) : gX6_built (sX6_keptSeen S v) = gX6_built S := id rfl
theorem nX6_cost_keptSeen (S : SX6) (v : Int32) : gX6_cost (sX6_keptSeen S v) = gX6_cost S := id rfl
theorem nX6_kinds_keptSeen (S : SX6) (v : Int32) : gX6_kinds (sX6_keptSeen S v) = gX6_kinds S := id rfl
theorem nX6_values_keptSeen (S : SX6) (v : Int32) : gX6_values (sX6_keptSeen S v) = gX6_values S := id rfl
theorem nX6_ratioA_keptSeen (S : SX6) (v : Int32) : gX6_ratioA (sX6_keptSeen S v) = gX6_ratioA S := id rfl
theorem nX6_ratioB_keptSeen (S : SX6) (v : Int32) : gX6_ratioB (sX6_keptSeen S v) = gX6_ratioB S := id rfl
theorem nX6_thenA_keptSeen (S : SX6) (v : Int32) : gX6_thenA (sX6_keptSeen S v) = gX6_thenA S := id rfl
theorem nX6_thenB_keptSeen (S : SX6) (v : Int32) : gX6_thenB (sX6_keptSeen S v) = gX6_thenB S := id rfl
theorem nX6_fee_keptSeen (S : SX6) (v : Int32) : gX6_fee (sX6_keptSeen S v) = gX6_fee S := id rfl
theorem nX6_credit_keptSeen (S : SX6) (v : Int32) : gX6_credit (sX6_keptSeen S v) = gX6_credit S := id rfl
theorem nX6_lowest_keptSeen (S : SX6) (v : Int32) : gX6_lowest (sX6_keptSeen S v) = gX6_lowest S := id rfl
theorem nX6_log_keptSeen (S : SX6) (v : Int32) : gX6_log (sX6_keptSeen S v) = gX6_log S := id rfl
theorem nX6_logMany_keptSeen (S : SX6) (v : Int32) : gX6_logMany (sX6_keptSeen S v) = gX6_logMany S := id rfl
theorem nX6_shelvesRead_keptSeen (S : SX6) (v : Int32) : gX6_shelvesRead (sX6_keptSeen S v) = gX6_shelvesRead S := id rfl
theorem nX6_row_keptSeen (S : SX6) (v : Int32) : gX6_row (sX6_keptSeen S v) = gX6_row S := id rfl
theorem nX6_spanLow_keptSeen (S : SX6) (v : Int32) : gX6_spanLow (sX6_keptSeen S v) = gX6_spanLow S := id rfl
theorem nX6_spanHigh_keptSeen (S : SX6) (v : Int32) : gX6_spanHigh (sX6_keptSeen S v) = gX6_spanHigh S := id rfl
theorem nX6_spanOn_keptSeen (S : SX6) (v : Int32) : gX6_spanOn (sX6_keptSeen S v) = gX6_spanOn S := id rfl
theorem nX6_seenMany_keptSeen (S : SX6) (v : Int32) : gX6_seenMany (sX6_keptSeen S v) = gX6_seenMany S := id rfl
theorem nX6_sights_keptSeen (S : SX6) (v : Int32) : gX6_sights (sX6_keptSeen S v) = gX6_sights S := id rfl
theorem nX6_seedNow_keptSeen (S : SX6) (v : Int32) : gX6_seedNow (sX6_keptSeen S v) = gX6_seedNow S := id rfl
theorem nX6_keptShelf_keptSeen (S : SX6) (v : Int32) : gX6_keptShelf (sX6_keptSeen S v) = gX6_keptShelf S := id rfl
theorem nX6_keptRoot_keptSeen (S : SX6) (v : Int32) : gX6_keptRoot (sX6_keptSeen S v) = gX6_keptRoot S := id rfl
theorem nX6_keptMany_keptSeen (S : SX6) (v : Int32) : gX6_keptMany (sX6_keptSeen S v) = gX6_keptMany S := id rfl
theorem nX6_keptMost_keptSeen (S : SX6) (v : Int32) : gX6_keptMost (sX6_keptSeen S v) = gX6_keptMost S := id rfl
theorem nX6_keptBuilt_keptSeen (S : SX6) (v : Int32) : gX6_keptBuilt (sX6_keptSeen S v) = gX6_keptBuilt S := id rfl
theorem nX6_keptCost_keptSeen (S : SX6) (v : Int32) : gX6_keptCost (sX6_keptSeen S v) = gX6_keptCost S := id rfl
theorem nX6_keptCredit_keptSeen (S : SX6) (v : Int32) : gX6_keptCredit (sX6_keptSeen S v) = gX6_keptCredit S := id rfl
theorem nX6_keptLowest_keptSeen (S : SX6) (v : Int32) : gX6_keptLowest (sX6_keptSeen S v) = gX6_keptLowest S := id rfl
theorem nX6_keptLogMany_keptSeen (S : SX6) (v : Int32) : gX6_keptLogMany (sX6_keptSeen S v) = gX6_keptLogMany S := id rfl
theorem nX6_keptSeen_keptSeen (S : SX6) (v : Int32) : gX6_keptSeen (sX6_keptSeen S v) = v := id rfl
theorem nX6_keptLeft_keptSeen (S : SX6) (v : Int32) : gX6_keptLeft (sX6_keptSeen S v) = gX6_keptLeft S := id rfl
theorem nX6_keptRight_keptSeen (S : SX6) (v : Int32) : gX6_keptRight (sX6_keptSeen S v) = gX6_keptRight S := id rfl
theorem nX6_keptAbove_keptSeen (S : SX6) (v : Int32) : gX6_keptAbove (sX6_keptSeen S v) = gX6_keptAbove S := id rfl
theorem nX6_keptThere_keptSeen (S : SX6) (v : Int32) : gX6_keptThere (sX6_keptSeen S v) = gX6_keptThere S := id rfl
theorem nX6_keptKinds_keptSeen (S : SX6) (v : Int32) : gX6_keptKinds (sX6_keptSeen S v) = gX6_keptKinds S := id rfl
theorem nX6_keptValues_keptSeen (S : SX6) (v : Int32) : gX6_keptValues (sX6_keptSeen S v) = gX6_keptValues S := id rfl
theorem nX6_keptLog_keptSeen (S : SX6) (v : Int32) : gX6_keptLog (sX6_keptSeen S v) = gX6_keptLog S := id rfl
theorem nX6_keptSights_keptSeen (S : SX6) (v : Int32) : gX6_keptSights (sX6_keptSeen S v) = gX6_keptSights S := id rfl
theorem nX6_hash_keptSeen (S : SX6) (v : Int32) : gX6_hash (sX6_keptSeen S v) = gX6_hash S := id rfl
theorem nX6_page_keptLeft (S : SX6) (v : (Nat → Int32)) : gX6_page (sX6_keptLeft S v) = gX6_page S := id rfl
theorem nX6_pageMany_keptLeft (S : SX6) (v : (Nat → Int32)) : gX6_pageMany (sX6_keptLeft S v) = gX6_pageMany S := id rfl
theorem nX6_left_keptLeft (S : SX6) (v : (Nat → Int32)) : gX6_left (sX6_keptLeft S v) = gX6_left S := id rfl
theorem nX6_right_keptLeft (S : SX6) (v : (Nat → Int32)) : gX6_right (sX6_keptLeft S v) = gX6_right S := id rfl
theorem nX6_above_keptLeft (S : SX6) (v : (Nat → Int32)) : gX6_above (sX6_keptLeft S v) = gX6_above S := id rfl
theorem nX6_there_keptLeft (S : SX6) (v : (Nat → Int32)) : gX6_there (sX6_keptLeft S v) = gX6_there S := id rfl
theorem nX6_root_keptLeft (S : SX6) (v : (Nat → Int32)) : gX6_root (sX6_keptLeft S v) = gX6_root S := id rfl
theorem nX6_many_keptLeft (S : SX6) (v : (Nat → Int32)) : gX6_many (sX6_keptLeft S v) = gX6_many S := id rfl
theorem nX6_most_keptLeft (S : SX6) (v : (Nat → Int32)) : gX6_most (sX6_keptLeft S v) = gX6_most S := id rfl
theorem nX6_builtNow_keptLeft (S : SX6) (v : (Nat → Int32)) : gX6_builtNow (sX6_keptLeft S v) = gX6_builtNow S := id rfl
theorem nX6_built_keptLeft (S : SX6) (v : (Nat → Int32)) : gX6_built (sX6_keptLeft S v) = gX6_built S := id rfl
theorem nX6_cost_keptLeft (S : SX6) (v : (Nat → Int32)) : gX6_cost (sX6_keptLeft S v) = gX6_cost S := id rfl
theorem nX6_kinds_keptLeft (S : SX6) (v : (Nat → Int32)) : gX6_kinds (sX6_keptLeft S v) = gX6_kinds S := id rfl
theorem nX6_values_keptLeft (S : SX6) (v : (Nat → Int32)) : gX6_values (sX6_keptLeft S v) = gX6_values S := id rfl
theorem nX6_ratioA_keptLeft (S : SX6) (v : (Nat → Int32)) : gX6_ratioA (sX6_keptLeft S v) = gX6_ratioA S := id rfl
theorem nX6_ratioB_keptLeft (S : SX6) (v : (Nat → Int32)) : gX6_ratioB (sX6_keptLeft S v) = gX6_ratioB S := id rfl
theorem nX6_thenA_keptLeft (S : SX6) (v : (Nat → Int32)) : gX6_thenA (sX6_keptLeft S v) = gX6_thenA S := id rfl
theorem nX6_thenB_keptLeft (S : SX6) (v : (Nat → Int32)) : gX6_thenB (sX6_keptLeft S v) = gX6_thenB S := id rfl
theorem nX6_fee_keptLeft (S : SX6) (v : (Nat → Int32)) : gX6_fee (sX6_keptLeft S v) = gX6_fee S := id rfl
theorem nX6_credit_keptLeft (S : SX6) (v : (Nat → Int32)) : gX6_credit (sX6_keptLeft S v) = gX6_credit S := id rfl
theorem nX6_lowest_keptLeft (S : SX6) (v : (Nat → Int32)) : gX6_lowest (sX6_keptLeft S v) = gX6_lowest S := id rfl
theorem nX6_log_keptLeft (S : SX6) (v : (Nat → Int32)) : gX6_log (sX6_keptLeft S v) = gX6_log S := id rfl
theorem nX6_logMany_keptLeft (S : SX6) (v : (Nat → Int32)) : gX6_logMany (sX6_keptLeft S v) = gX6_logMany S := id rfl
theorem nX6_shelvesRead_keptLeft (S : SX6) (v : (Nat → Int32)) : gX6_shelvesRead (sX6_keptLeft S v) = gX6_shelvesRead S := id rfl
theorem nX6_row_keptLeft (S : SX6) (v : (Nat → Int32)) : gX6_row (sX6_keptLeft S v) = gX6_row S := id rfl
theorem nX6_spanLow_keptLeft (S : SX6) (v : (Nat → Int32)) : gX6_spanLow (sX6_keptLeft S v) = gX6_spanLow S := id rfl
theorem nX6_spanHigh_keptLeft (S : SX6) (v : (Nat → Int32)) : gX6_spanHigh (sX6_keptLeft S v) = gX6_spanHigh S := id rfl
theorem nX6_spanOn_keptLeft (S : SX6) (v : (Nat → Int32)) : gX6_spanOn (sX6_keptLeft S v) = gX6_spanOn S := id rfl
theorem nX6_seenMany_keptLeft (S : SX6) (v : (Nat → Int32)) : gX6_seenMany (sX6_keptLeft S v) = gX6_seenMany S := id rfl
theorem nX6_sights_keptLeft (S : SX6) (v : (Nat → Int32)) : gX6_sights (sX6_keptLeft S v) = gX6_sights S := id rfl
theorem nX6_seedNow_keptLeft (S : SX6) (v : (Nat → Int32)) : gX6_seedNow (sX6_keptLeft S v) = gX6_seedNow S := id rfl
theorem nX6_keptShelf_keptLeft (S : SX6) (v : (Nat → Int32)) : gX6_keptShelf (sX6_keptLeft S v) = gX6_keptShelf S := id rfl
theorem nX6_keptRoot_keptLeft (S : SX6) (v : (Nat → Int32)) : gX6_keptRoot (sX6_keptLeft S v) = gX6_keptRoot S := id rfl
theorem nX6_keptMany_keptLeft (S : SX6) (v : (Nat → Int32)) : gX6_keptMany (sX6_keptLeft S v) = gX6_keptMany S := id rfl
theorem nX6_keptMost_keptLeft (S : SX6) (v : (Nat → Int32)) : gX6_keptMost (sX6_keptLeft S v) = gX6_keptMost S := id rfl
theorem nX6_keptBuilt_keptLeft (S : SX6) (v : (Nat → Int32)) : gX6_keptBuilt (sX6_keptLeft S v) = gX6_keptBuilt S := id rfl
theorem nX6_keptCost_keptLeft (S : SX6) (v : (Nat → Int32)) : gX6_keptCost (sX6_keptLeft S v) = gX6_keptCost S := id rfl
theorem nX6_keptCredit_keptLeft (S : SX6) (v : (Nat → Int32)) : gX6_keptCredit (sX6_keptLeft S v) = gX6_keptCredit S := id rfl
theorem nX6_keptLowest_keptLeft (S : SX6) (v : (Nat → Int32)) : gX6_keptLowest (sX6_keptLeft S v) = gX6_keptLowest S := id rfl
theorem nX6_keptLogMany_keptLeft (S : SX6) (v : (Nat → Int32)) : gX6_keptLogMany (sX6_keptLeft S v) = gX6_keptLogMany S := id rfl
theorem nX6_keptSeen_keptLeft (S : SX6) (v : (Nat → Int32)) : gX6_keptSeen (sX6_keptLeft S v) = gX6_keptSeen S := id rfl
theorem nX6_keptLeft_keptLeft (S : SX6) (v : (Nat → Int32)) : gX6_keptLeft (sX6_keptLeft S v) = v := id rfl
theorem nX6_keptRight_keptLeft (S : SX6) (v : (Nat → Int32)) : gX6_keptRight (sX6_keptLeft S v) = gX6_keptRight S := id rfl
theorem nX6_keptAbove_keptLeft (S : SX6) (v : (Nat → Int32)) : gX6_keptAbove (sX6_keptLeft S v) = gX6_keptAbove S := id rfl
theorem nX6_keptThere_keptLeft (S : SX6) (v : (Nat → Int32)) : gX6_keptThere (sX6_keptLeft S v) = gX6_keptThere S := id rfl
theorem nX6_keptKinds_keptLeft (S : SX6) (v : (Nat → Int32)) : gX6_keptKinds (sX6_keptLeft S v) = gX6_keptKinds S := id rfl
theorem nX6_keptValues_keptLeft (S : SX6) (v : (Nat → Int32)) : gX6_keptValues (sX6_keptLeft S v) = gX6_keptValues S := id rfl
theorem nX6_keptLog_keptLeft (S : SX6) (v : (Nat → Int32)) : gX6_keptLog (sX6_keptLeft S v) = gX6_keptLog S := id rfl
theorem nX6_keptSights_keptLeft (S : SX6) (v : (Nat → Int32)) : gX6_keptSights (sX6_keptLeft S v) = gX6_keptSights S := id rfl
theorem nX6_hash_keptLeft (S : SX6) (v : (Nat → Int32)) : gX6_hash (sX6_keptLeft S v) = gX6_hash S := id rfl
theorem nX6_page_keptRight (S : SX6) (v : (Nat → Int32)) : gX6_page (sX6_keptRight S v) = gX6_page S := id rfl
theorem nX6_pageMany_keptRight (S : SX6) (v : (Nat → Int32)) : gX6_pageMany (sX6_keptRight S v) = gX6_pageMany S := id rfl
theorem nX6_left_keptRight (S : SX6) (v : (Nat → Int32)) : gX6_left (sX6_keptRight S v) = gX6_left S := id rfl
theorem nX6_right_keptRight (S : SX6) (v : (Nat → Int32)) : gX6_right (sX6_keptRight S v) = gX6_right S := id rfl
theorem nX6_above_keptRight (S : SX6) (v : (Nat → Int32)) : gX6_above (sX6_keptRight S v) = gX6_above S := id rfl
theorem nX6_there_keptRight (S : SX6) (v : (Nat → Int32)) : gX6_there (sX6_keptRight S v) = gX6_there S := id rfl
theorem nX6_root_keptRight (S : SX6) (v : (Nat → Int32)) : gX6_root (sX6_keptRight S v) = gX6_root S := id rfl
theorem nX6_many_keptRight (S : SX6) (v : (Nat → Int32)) : gX6_many (sX6_keptRight S v) = gX6_many S := id rfl
theorem nX6_most_keptRight (S : SX6) (v : (Nat → Int32)) : gX6_most (sX6_keptRight S v) = gX6_most S := id rfl
theorem nX6_builtNow_keptRight (S : SX6) (v : (Nat → Int32)) : gX6_builtNow (sX6_keptRight S v) = gX6_builtNow S := id rfl
theorem nX6_built_keptRight (S : SX6) (v : (Nat → Int32)) : gX6_built (sX6_keptRight S v) = gX6_built S := id rfl
theorem nX6_cost_keptRight (S : SX6) (v : (Nat → Int32)) : gX6_cost (sX6_keptRight S v) = gX6_cost S := id rfl
theorem nX6_kinds_keptRight (S : SX6) (v : (Nat → Int32)) : gX6_kinds (sX6_keptRight S v) = gX6_kinds S := id rfl
theorem nX6_values_keptRight (S : SX6) (v : (Nat → Int32)) : gX6_values (sX6_keptRight S v) = gX6_values S := id rfl
theorem nX6_ratioA_keptRight (S : SX6) (v : (Nat → Int32)) : gX6_ratioA (sX6_keptRight S v) = gX6_ratioA S := id rfl
theorem nX6_ratioB_keptRight (S : SX6) (v : (Nat → Int32)) : gX6_ratioB (sX6_keptRight S v) = gX6_ratioB S := id rfl
theorem nX6_thenA_keptRight (S : SX6) (v : (Nat → Int32)) : gX6_thenA (sX6_keptRight S v) = gX6_thenA S := id rfl
theorem nX6_thenB_keptRight (S : SX6) (v : (Nat → Int32)) : gX6_thenB (sX6_keptRight S v) = gX6_thenB S := id rfl
theorem nX6_fee_keptRight (S : SX6) (v : (Nat → Int32)) : gX6_fee (sX6_keptRight S v) = gX6_fee S := id rfl
theorem nX6_credit_keptRight (S : SX6) (v : (Nat → Int32)) : gX6_credit (sX6_keptRight S v) = gX6_credit S := id rfl
theorem nX6_lowest_keptRight (S : SX6) (v : (Nat → Int32)) : gX6_lowest (sX6_keptRight S v) = gX6_lowest S := id rfl
theorem nX6_log_keptRight (S : SX6) (v : (Nat → Int32)) : gX6_log (sX6_keptRight S v) = gX6_log S := id rfl
theorem nX6_logMany_keptRight (S : SX6) (v : (Nat → Int32)) : gX6_logMany (sX6_keptRight S v) = gX6_logMany S := id rfl
theorem nX6_shelvesRead_keptRight (S : SX6) (v : (Nat → Int32)) : gX6_shelvesRead (sX6_keptRight S v) = gX6_shelvesRead S := id rfl
theorem nX6_row_keptRight (S : SX6) (v : (Nat → Int32)) : gX6_row (sX6_keptRight S v) = gX6_row S := id rfl
theorem nX6_spanLow_keptRight (S : SX6) (v : (Nat → Int32)) : gX6_spanLow (sX6_keptRight S v) = gX6_spanLow S := id rfl
theorem nX6_spanHigh_keptRight (S : SX6) (v : (Nat → Int32)) : gX6_spanHigh (sX6_keptRight S v) = gX6_spanHigh S := id rfl
theorem nX6_spanOn_keptRight (S : SX6) (v : (Nat → Int32)) : gX6_spanOn (sX6_keptRight S v) = gX6_spanOn S := id rfl
theorem nX6_seenMany_keptRight (S : SX6) (v : (Nat → Int32)) : gX6_seenMany (sX6_keptRight S v) = gX6_seenMany S := id rfl
theorem nX6_sights_keptRight (S : SX6) (v : (Nat → Int32)) : gX6_sights (sX6_keptRight S v) = gX6_sights S := id rfl
theorem nX6_seedNow_keptRight (S : SX6) (v : (Nat → Int32)) : gX6_seedNow (sX6_keptRight S v) = gX6_seedNow S := id rfl
theorem nX6_keptShelf_keptRight (S : SX6) (v : (Nat → Int32)) : gX6_keptShelf (sX6_keptRight S v) = gX6_keptShelf S := id rfl
theorem nX6_keptRoot_keptRight (S : SX6) (v : (Nat → Int32)) : gX6_keptRoot (sX6_keptRight S v) = gX6_keptRoot S := id rfl
theorem nX6_keptMany_keptRight (S : SX6) (v : (Nat → Int32)) : gX6_keptMany (sX6_keptRight S v) = gX6_keptMany S := id rfl
theorem nX6_keptMost_keptRight (S : SX6) (v : (Nat → Int32)) : gX6_keptMost (sX6_keptRight S v) = gX6_keptMost S := id rfl
theorem nX6_keptBuilt_keptRight (S : SX6) (v : (Nat → Int32)) : gX6_keptBuilt (sX6_keptRight S v) = gX6_keptBuilt S := id rfl
theorem nX6_keptCost_keptRight (S : SX6) (v : (Nat → Int32)) : gX6_keptCost (sX6_keptRight S v) = gX6_keptCost S := id rfl
theorem nX6_keptCredit_keptRight (S : SX6) (v : (Nat → Int32)) : gX6_keptCredit (sX6_keptRight S v) = gX6_keptCredit S := id rfl
theorem nX6_keptLowest_keptRight (S : SX6) (v : (Nat → Int32)) : gX6_keptLowest (sX6_keptRight S v) = gX6_keptLowest S := id rfl
theorem nX6_keptLogMany_keptRight (S : SX6) (v : (Nat → Int32)) : gX6_keptLogMany (sX6_keptRight S v) = gX6_keptLogMany S := id rfl
theorem nX6_keptSeen_keptRight (S : SX6) (v : (Nat → Int32)) : gX6_keptSeen (sX6_keptRight S v) = gX6_keptSeen S := id rfl
theorem nX6_keptLeft_keptRight (S : SX6) (v : (Nat → Int32)) : gX6_keptLeft (sX6_keptRight S v) = gX6_keptLeft S := id rfl
theorem nX6_keptRight_keptRight (S : SX6) (v : (Nat → Int32)) : gX6_keptRight (sX6_keptRight S v) = v := id rfl
theorem nX6_keptAbove_keptRight (S : SX6) (v : (Nat → Int32)) : gX6_keptAbove (sX6_keptRight S v) = gX6_keptAbove S := id rfl
theorem nX6_keptThere_keptRight (S : SX6) (v : (Nat → Int32)) : gX6_keptThere (sX6_keptRight S v) = gX6_keptThere S := id rfl
theorem nX6_keptKinds_keptRight (S : SX6) (v : (Nat → Int32)) : gX6_keptKinds (sX6_keptRight S v) = gX6_keptKinds S := id rfl
theorem nX6_keptValues_keptRight (S : SX6) (v : (Nat → Int32)) : gX6_keptValues (sX6_keptRight S v) = gX6_keptValues S := id rfl
theorem nX6_keptLog_keptRight (S : SX6) (v : (Nat → Int32)) : gX6_keptLog (sX6_keptRight S v) = gX6_keptLog S := id rfl
theorem nX6_keptSights_keptRight (S : SX6) (v : (Nat → Int32)) : gX6_keptSights (sX6_keptRight S v) = gX6_keptSights S := id rfl
theorem nX6_hash_keptRight (S : SX6) (v : (Nat → Int32)) : gX6_hash (sX6_keptRight S v) = gX6_hash S := id rfl
theorem nX6_page_keptAbove (S : SX6) (v : (Nat → Int32)) : gX6_page (sX6_keptAbove S v) = gX6_page S := id rfl
theorem nX6_pageMany_keptAbove (S : SX6) (v : (Nat → Int32)) : gX6_pageMany (sX6_keptAbove S v) = gX6_pageMany S := id rfl
theorem nX6_left_keptAbove (S : SX6) (v : (Nat → Int32)) : gX6_left (sX6_keptAbove S v) = gX6_left S := id rfl
theorem nX6_right_keptAbove (S : SX6) (v : (Nat → Int32)) : gX6_right (sX6_keptAbove S v) = gX6_right S := id rfl
theorem nX6_above_keptAbove (S : SX6) (v : (Nat → Int32)) : gX6_above (sX6_keptAbove S v) = gX6_above S := id rfl
theorem nX6_there_keptAbove (S : SX6) (v : (Nat → Int32)) : gX6_there (sX6_keptAbove S v) = gX6_there S := id rfl
theorem nX6_root_keptAbove (S : SX6) (v : (Nat → Int32)) : gX6_root (sX6_keptAbove S v) = gX6_root S := id rfl
theorem nX6_many_keptAbove (S : SX6) (v : (Nat → Int32)) : gX6_many (sX6_keptAbove S v) = gX6_many S := id rfl
theorem nX6_most_keptAbove (S : SX6) (v : (Nat → Int32)) : gX6_most (sX6_keptAbove S v) = gX6_most S := id rfl
theorem nX6_builtNow_keptAbove (S : SX6) (v : (Nat → Int32)) : gX6_builtNow (sX6_keptAbove S v) = gX6_builtNow S := id rfl
theorem nX6_built_keptAbove (S : SX6) (v : (Nat → Int32)) : gX6_built (sX6_keptAbove S v) = gX6_built S := id rfl
theorem nX6_cost_keptAbove (S : SX6) (v : (Nat → Int32)) : gX6_cost (sX6_keptAbove S v) = gX6_cost S := id rfl
theorem nX6_kinds_keptAbove (S : SX6) (v : (Nat → Int32)) : gX6_kinds (sX6_keptAbove S v) = gX6_kinds S := id rfl
theorem nX6_values_keptAbove (S : SX6) (v : (Nat → Int32)) : gX6_values (sX6_keptAbove S v) = gX6_values S := id rfl
theorem nX6_ratioA_keptAbove (S : SX6) (v : (Nat → Int32)) : gX6_ratioA (sX6_keptAbove S v) = gX6_ratioA S := id rfl
theorem nX6_ratioB_keptAbove (S : SX6) (v : (Nat → Int32)) : gX6_ratioB (sX6_keptAbove S v) = gX6_ratioB S := id rfl
theorem nX6_thenA_keptAbove (S : SX6) (v : (Nat → Int32)) : gX6_thenA (sX6_keptAbove S v) = gX6_thenA S := id rfl
theorem nX6_thenB_keptAbove (S : SX6) (v : (Nat → Int32)) : gX6_thenB (sX6_keptAbove S v) = gX6_thenB S := id rfl
theorem nX6_fee_keptAbove (S : SX6) (v : (Nat → Int32)) : gX6_fee (sX6_keptAbove S v) = gX6_fee S := id rfl
theorem nX6_credit_keptAbove (S : SX6) (v : (Nat → Int32)) : gX6_credit (sX6_keptAbove S v) = gX6_credit S := id rfl
theorem nX6_lowest_keptAbove (S : SX6) (v : (Nat → Int32)) : gX6_lowest (sX6_keptAbove S v) = gX6_lowest S := id rfl
theorem nX6_log_keptAbove (S : SX6) (v : (Nat → Int32)) : gX6_log (sX6_keptAbove S v) = gX6_log S := id rfl
theorem nX6_logMany_keptAbove (S : SX6) (v : (Nat → Int32)) : gX6_logMany (sX6_keptAbove S v) = gX6_logMany S := id rfl
theorem nX6_shelvesRead_keptAbove (S : SX6) (v : (Nat → Int32)) : gX6_shelvesRead (sX6_keptAbove S v) = gX6_shelvesRead S := id rfl
theorem nX6_row_keptAbove (S : SX6) (v : (Nat → Int32)) : gX6_row (sX6_keptAbove S v) = gX6_row S := id rfl
theorem nX6_spanLow_keptAbove (S : SX6) (v : (Nat → Int32)) : gX6_spanLow (sX6_keptAbove S v) = gX6_spanLow S := id rfl
theorem nX6_spanHigh_keptAbove (S : SX6) (v : (Nat → Int32)) : gX6_spanHigh (sX6_keptAbove S v) = gX6_spanHigh S := id rfl
theorem nX6_spanOn_keptAbove (S : SX6) (v : (Nat → Int32)) : gX6_spanOn (sX6_keptAbove S v) = gX6_spanOn S := id rfl
theorem nX6_seenMany_keptAbove (S : SX6) (v : (Nat → Int32)) : gX6_seenMany (sX6_keptAbove S v) = gX6_seenMany S := id rfl
theorem nX6_sights_keptAbove (S : SX6) (v : (Nat → Int32)) : gX6_sights (sX6_keptAbove S v) = gX6_sights S := id rfl
theorem nX6_seedNow_keptAbove (S : SX6) (v : (Nat → Int32)) : gX6_seedNow (sX6_keptAbove S v) = gX6_seedNow S := id rfl
theorem nX6_keptShelf_keptAbove (S : SX6) (v : (Nat → Int32)) : gX6_keptShelf (sX6_keptAbove S v) = gX6_keptShelf S := id rfl
theorem nX6_keptRoot_keptAbove (S : SX6) (v : (Nat → Int32)) : gX6_keptRoot (sX6_keptAbove S v) = gX6_keptRoot S := id rfl
theorem nX6_keptMany_keptAbove (S : SX6) (v : (Nat → Int32)) : gX6_keptMany (sX6_keptAbove S v) = gX6_keptMany S := id rfl
theorem nX6_keptMost_keptAbove (S : SX6) (v : (Nat → Int32)) : gX6_keptMost (sX6_keptAbove S v) = gX6_keptMost S := id rfl
theorem nX6_keptBuilt_keptAbove (S : SX6) (v : (Nat → Int32)) : gX6_keptBuilt (sX6_keptAbove S v) = gX6_keptBuilt S := id rfl
theorem nX6_keptCost_keptAbove (S : SX6) (v : (Nat → Int32)) : gX6_keptCost (sX6_keptAbove S v) = gX6_keptCost S := id rfl
theorem nX6_keptCredit_keptAbove (S : SX6) (v : (Nat → Int32)) : gX6_keptCredit (sX6_keptAbove S v) = gX6_keptCredit S := id rfl
theorem nX6_keptLowest_keptAbove (S : SX6) (v : (Nat → Int32)) : gX6_keptLowest (sX6_keptAbove S v) = gX6_keptLowest S := id rfl
theorem nX6_keptLogMany_keptAbove (S : SX6) (v : (Nat → Int32)) : gX6_keptLogMany (sX6_keptAbove S v) = gX6_keptLogMany S := id rfl
theorem nX6_keptSeen_keptAbove (S : SX6) (v : (Nat → Int32)) : gX6_keptSeen (sX6_keptAbove S v) = gX6_keptSeen S := id rfl
theorem nX6_keptLeft_keptAbove (S : SX6) (v : (Nat → Int32)) : gX6_keptLeft (sX6_keptAbove S v) = gX6_keptLeft S := id rfl
theorem nX6_keptRight_keptAbove (S : SX6) (v : (Nat → Int32)) : gX6_keptRight (sX6_keptAbove S v) = gX6_keptRight S := id rfl
theorem nX6_keptAbove_keptAbove (S : SX6) (v : (Nat → Int32)) : gX6_keptAbove (sX6_keptAbove S v) = v := id rfl
theorem nX6_keptThere_keptAbove (S : SX6) (v : (Nat → Int32)) : gX6_keptThere (sX6_keptAbove S v) = gX6_keptThere S := id rfl
theorem nX6_keptKinds_keptAbove (S : SX6) (v : (Nat → Int32)) : gX6_keptKinds (sX6_keptAbove S v) = gX6_keptKinds S := id rfl
theorem nX6_keptValues_keptAbove (S : SX6) (v : (Nat → Int32)) : gX6_keptValues (sX6_keptAbove S v) = gX6_keptValues S := id rfl
theorem nX6_keptLog_keptAbove (S : SX6) (v : (Nat → Int32)) : gX6_keptLog (sX6_keptAbove S v) = gX6_keptLog S := id rfl
theorem nX6_keptSights_keptAbove (S : SX6) (v : (Nat → Int32)) : gX6_keptSights (sX6_keptAbove S v) = gX6_keptSights S := id rfl
theorem nX6_hash_keptAbove (S : SX6) (v : (Nat → Int32)) : gX6_hash (sX6_keptAbove S v) = gX6_hash S := id rfl
theorem nX6_page_keptThere (S : SX6) (v : (Nat → Int32)) : gX6_page (sX6_keptThere S v) = gX6_page S := id rfl
theorem nX6_pageMany_keptThere (S : SX6) (v : (Nat → Int32)) : gX6_pageMany (sX6_keptThere S v) = gX6_pageMany S := id rfl
theorem nX6_left_keptThere (S : SX6) (v : (Nat → Int32)) : gX6_left (sX6_keptThere S v) = gX6_left S := id rfl
theorem nX6_right_keptThere (S : SX6) (v : (Nat → Int32)) : gX6_right (sX6_keptThere S v) = gX6_right S := id rfl
theorem nX6_above_keptThere (S : SX6) (v : (Nat → Int32)) : gX6_above (sX6_keptThere S v) = gX6_above S := id rfl
theorem nX6_there_keptThere (S : SX6) (v : (Nat → Int32)) : gX6_there (sX6_keptThere S v) = gX6_there S := id rfl
theorem nX6_root_keptThere (S : SX6) (v : (Nat → Int32)) : gX6_root (sX6_keptThere S v) = gX6_root S := id rfl
theorem nX6_many_keptThere (S : SX6) (v : (Nat → Int32)) : gX6_many (sX6_keptThere S v) = gX6_many S := id rfl
theorem nX6_most_keptThere (S : SX6) (v : (Nat → Int32)) : gX6_most (sX6_keptThere S v) = gX6_most S := id rfl
theorem nX6_builtNow_keptThere (S : SX6) (v : (Nat → Int32)) : gX6_builtNow (sX6_keptThere S v) = gX6_builtNow S := id rfl
theorem nX6_built_keptThere (S : SX6) (v : (Nat → Int32)) : gX6_built (sX6_keptThere S v) = gX6_built S := id rfl
theorem nX6_cost_keptThere (S : SX6) (v : (Nat → Int32)) : gX6_cost (sX6_keptThere S v) = gX6_cost S := id rfl
theorem nX6_kinds_keptThere (S : SX6) (v : (Nat → Int32)) : gX6_kinds (sX6_keptThere S v) = gX6_kinds S := id rfl
theorem nX6_values_keptThere (S : SX6) (v : (Nat → Int32)) : gX6_values (sX6_keptThere S v) = gX6_values S := id rfl
theorem nX6_ratioA_keptThere (S : SX6) (v : (Nat → Int32)) : gX6_ratioA (sX6_keptThere S v) = gX6_ratioA S := id rfl
theorem nX6_ratioB_keptThere (S : SX6) (v : (Nat → Int32)) : gX6_ratioB (sX6_keptThere S v) = gX6_ratioB S := id rfl
theorem nX6_thenA_keptThere (S : SX6) (v : (Nat → Int32)) : gX6_thenA (sX6_keptThere S v) = gX6_thenA S := id rfl
theorem nX6_thenB_keptThere (S : SX6) (v : (Nat → Int32)) : gX6_thenB (sX6_keptThere S v) = gX6_thenB S := id rfl
theorem nX6_fee_keptThere (S : SX6) (v : (Nat → Int32)) : gX6_fee (sX6_keptThere S v) = gX6_fee S := id rfl
theorem nX6_credit_keptThere (S : SX6) (v : (Nat → Int32)) : gX6_credit (sX6_keptThere S v) = gX6_credit S := id rfl
theorem nX6_lowest_keptThere (S : SX6) (v : (Nat → Int32)) : gX6_lowest (sX6_keptThere S v) = gX6_lowest S := id rfl
theorem nX6_log_keptThere (S : SX6) (v : (Nat → Int32)) : gX6_log (sX6_keptThere S v) = gX6_log S := id rfl
theorem nX6_logMany_keptThere (S : SX6) (v : (Nat → Int32)) : gX6_logMany (sX6_keptThere S v) = gX6_logMany S := id rfl
theorem nX6_shelvesRead_keptThere (S : SX6) (v : (Nat → Int32)) : gX6_shelvesRead (sX6_keptThere S v) = gX6_shelvesRead S := id rfl
theorem nX6_row_keptThere (S : SX6) (v : (Nat → Int32)) : gX6_row (sX6_keptThere S v) = gX6_row S := id rfl
theorem nX6_spanLow_keptThere (S : SX6) (v : (Nat → Int32)) : gX6_spanLow (sX6_keptThere S v) = gX6_spanLow S := id rfl
theorem nX6_spanHigh_keptThere (S : SX6) (v : (Nat → Int32)) : gX6_spanHigh (sX6_keptThere S v) = gX6_spanHigh S := id rfl
theorem nX6_spanOn_keptThere (S : SX6) (v : (Nat → Int32)) : gX6_spanOn (sX6_keptThere S v) = gX6_spanOn S := id rfl
theorem nX6_seenMany_keptThere (S : SX6) (v : (Nat → Int32)) : gX6_seenMany (sX6_keptThere S v) = gX6_seenMany S := id rfl
theorem nX6_sights_keptThere (S : SX6) (v : (Nat → Int32)) : gX6_sights (sX6_keptThere S v) = gX6_sights S := id rfl
theorem nX6_seedNow_keptThere (S : SX6) (v : (Nat → Int32)) : gX6_seedNow (sX6_keptThere S v) = gX6_seedNow S := id rfl
theorem nX6_keptShelf_keptThere (S : SX6) (v : (Nat → Int32)) : gX6_keptShelf (sX6_keptThere S v) = gX6_keptShelf S := id rfl
theorem nX6_keptRoot_keptThere (S : SX6) (v : (Nat → Int32)) : gX6_keptRoot (sX6_keptThere S v) = gX6_keptRoot S := id rfl
theorem nX6_keptMany_keptThere (S : SX6) (v : (Nat → Int32)) : gX6_keptMany (sX6_keptThere S v) = gX6_keptMany S := id rfl
theorem nX6_keptMost_keptThere (S : SX6) (v : (Nat → Int32)) : gX6_keptMost (sX6_keptThere S v) = gX6_keptMost S := id rfl
theorem nX6_keptBuilt_keptThere (S : SX6) (v : (Nat → Int32)) : gX6_keptBuilt (sX6_keptThere S v) = gX6_keptBuilt S := id rfl
theorem nX6_keptCost_keptThere (S : SX6) (v : (Nat → Int32)) : gX6_keptCost (sX6_keptThere S v) = gX6_keptCost S := id rfl
theorem nX6_keptCredit_keptThere (S : SX6) (v : (Nat → Int32)) : gX6_keptCredit (sX6_keptThere S v) = gX6_keptCredit S := id rfl
theorem nX6_keptLowest_keptThere (S : SX6) (v : (Nat → Int32)) : gX6_keptLowest (sX6_keptThere S v) = gX6_keptLowest S := id rfl
theorem nX6_keptLogMany_keptThere (S : SX6) (v : (Nat → Int32)) : gX6_keptLogMany (sX6_keptThere S v) = gX6_keptLogMany S := id rfl
theorem nX6_keptSeen_keptThere (S : SX6) (v : (Nat → Int32)) : gX6_keptSeen (sX6_keptThere S v) = gX6_keptSeen S := id rfl
theorem nX6_keptLeft_keptThere (S : SX6) (v : (Nat → Int32)) : gX6_keptLeft (sX6_keptThere S v) = gX6_keptLeft S := id rfl
theorem nX6_keptRight_keptThere (S : SX6) (v : (Nat → Int32)) : gX6_keptRight (sX6_keptThere S v) = gX6_keptRight S := id rfl
theorem nX6_keptAbove_keptThere (S : SX6) (v : (Nat → Int32)) : gX6_keptAbove (sX6_keptThere S v) = gX6_keptAbove S := id rfl
theorem nX6_keptThere_keptThere (S : SX6) (v : (Nat → Int32)) : gX6_keptThere (sX6_keptThere S v) = v := id rfl
theorem nX6_keptKinds_keptThere (S : SX6) (v : (Nat → Int32)) : gX6_keptKinds (sX6_keptThere S v) = gX6_keptKinds S := id rfl
theorem nX6_keptValues_keptThere (S : SX6) (v : (Nat → Int32)) : gX6_keptValues (sX6_keptThere S v) = gX6_keptValues S := id rfl
theorem nX6_keptLog_keptThere (S : SX6) (v : (Nat → Int32)) : gX6_keptLog (sX6_keptThere S v) = gX6_keptLog S := id rfl
theorem nX6_keptSights_keptThere (S : SX6) (v : (Nat → Int32)) : gX6_keptSights (sX6_keptThere S v) = gX6_keptSights S := id rfl
theorem nX6_hash_keptThere (S : SX6) (v : (Nat → Int32)) : gX6_hash (sX6_keptThere S v) = gX6_hash S := id rfl
theorem nX6_page_keptKinds (S : SX6) (v : (Nat → Int32)) : gX6_page (sX6_keptKinds S v) = gX6_page S := id rfl
theorem nX6_pageMany_keptKinds (S : SX6) (v : (Nat → Int32)) : gX6_pageMany (sX6_keptKinds S v) = gX6_pageMany S := id rfl
theorem nX6_left_keptKinds (S : SX6) (v : (Nat → Int32)) : gX6_left (sX6_keptKinds S v) = gX6_left S := id rfl
theorem nX6_right_keptKinds (S : SX6) (v : (Nat → Int32)) : gX6_right (sX6_keptKinds S v) = gX6_right S := id rfl
theorem nX6_above_keptKinds (S : SX6) (v : (Nat → Int32)) : gX6_above (sX6_keptKinds S v) = gX6_above S := id rfl
theorem nX6_there_keptKinds (S : SX6) (v : (Nat → Int32)) : gX6_there (sX6_keptKinds S v) = gX6_there S := id rfl
theorem nX6_root_keptKinds (S : SX6) (v : (Nat → Int32)) : gX6_root (sX6_keptKinds S v) = gX6_root S := id rfl
theorem nX6_many_keptKinds (S : SX6) (v : (Nat → Int32)) : gX6_many (sX6_keptKinds S v) = gX6_many S := id rfl
theorem nX6_most_keptKinds (S : SX6) (v : (Nat → Int32)) : gX6_most (sX6_keptKinds S v) = gX6_most S := id rfl
theorem nX6_builtNow_keptKinds (S : SX6) (v : (Nat → Int32)) : gX6_builtNow (sX6_keptKinds S v) = gX6_builtNow S := id rfl
theorem nX6_built_keptKinds (S : SX6) (v : (Nat → Int32)) : gX6_built (sX6_keptKinds S v) = gX6_built S := id rfl
theorem nX6_cost_keptKinds (S : SX6) (v : (Nat → Int32)) : gX6_cost (sX6_keptKinds S v) = gX6_cost S := id rfl
theorem nX6_kinds_keptKinds (S : SX6) (v : (Nat → Int32)) : gX6_kinds (sX6_keptKinds S v) = gX6_kinds S := id rfl
theorem nX6_values_keptKinds (S : SX6) (v : (Nat → Int32)) : gX6_values (sX6_keptKinds S v) = gX6_values S := id rfl
theorem nX6_ratioA_keptKinds (S : SX6) (v : (Nat → Int32)) : gX6_ratioA (sX6_keptKinds S v) = gX6_ratioA S := id rfl
theorem nX6_ratioB_keptKinds (S : SX6) (v : (Nat → Int32)) : gX6_ratioB (sX6_keptKinds S v) = gX6_ratioB S := id rfl
theorem nX6_thenA_keptKinds (S : SX6) (v : (Nat → Int32)) : gX6_thenA (sX6_keptKinds S v) = gX6_thenA S := id rfl
theorem nX6_thenB_keptKinds (S : SX6) (v : (Nat → Int32)) : gX6_thenB (sX6_keptKinds S v) = gX6_thenB S := id rfl
theorem nX6_fee_keptKinds (S : SX6) (v : (Nat → Int32)) : gX6_fee (sX6_keptKinds S v) = gX6_fee S := id rfl
theorem nX6_credit_keptKinds (S : SX6) (v : (Nat → Int32)) : gX6_credit (sX6_keptKinds S v) = gX6_credit S := id rfl
theorem nX6_lowest_keptKinds (S : SX6) (v : (Nat → Int32)) : gX6_lowest (sX6_keptKinds S v) = gX6_lowest S := id rfl
theorem nX6_log_keptKinds (S : SX6) (v : (Nat → Int32)) : gX6_log (sX6_keptKinds S v) = gX6_log S := id rfl
theorem nX6_logMany_keptKinds (S : SX6) (v : (Nat → Int32)) : gX6_logMany (sX6_keptKinds S v) = gX6_logMany S := id rfl
theorem nX6_shelvesRead_keptKinds (S : SX6) (v : (Nat → Int32)) : gX6_shelvesRead (sX6_keptKinds S v) = gX6_shelvesRead S := id rfl
theorem nX6_row_keptKinds (S : SX6) (v : (Nat → Int32)) : gX6_row (sX6_keptKinds S v) = gX6_row S := id rfl
theorem nX6_spanLow_keptKinds (S : SX6) (v : (Nat → Int32)) : gX6_spanLow (sX6_keptKinds S v) = gX6_spanLow S := id rfl
theorem nX6_spanHigh_keptKinds (S : SX6) (v : (Nat → Int32)) : gX6_spanHigh (sX6_keptKinds S v) = gX6_spanHigh S := id rfl
theorem nX6_spanOn_keptKinds (S : SX6) (v : (Nat → Int32)) : gX6_spanOn (sX6_keptKinds S v) = gX6_spanOn S := id rfl
theorem nX6_seenMany_keptKinds (S : SX6) (v : (Nat → Int32)) : gX6_seenMany (sX6_keptKinds S v) = gX6_seenMany S := id rfl
theorem nX6_sights_keptKinds (S : SX6) (v : (Nat → Int32)) : gX6_sights (sX6_keptKinds S v) = gX6_sights S := id rfl
theorem nX6_seedNow_keptKinds (S : SX6) (v : (Nat → Int32)) : gX6_seedNow (sX6_keptKinds S v) = gX6_seedNow S := id rfl
theorem nX6_keptShelf_keptKinds (S : SX6) (v : (Nat → Int32)) : gX6_keptShelf (sX6_keptKinds S v) = gX6_keptShelf S := id rfl
theorem nX6_keptRoot_keptKinds (S : SX6) (v : (Nat → Int32)) : gX6_keptRoot (sX6_keptKinds S v) = gX6_keptRoot S := id rfl
theorem nX6_keptMany_keptKinds (S : SX6) (v : (Nat → Int32)) : gX6_keptMany (sX6_keptKinds S v) = gX6_keptMany S := id rfl
theorem nX6_keptMost_keptKinds (S : SX6) (v : (Nat → Int32)) : gX6_keptMost (sX6_keptKinds S v) = gX6_keptMost S := id rfl
theorem nX6_keptBuilt_keptKinds (S : SX6) (v : (Nat → Int32)) : gX6_keptBuilt (sX6_keptKinds S v) = gX6_keptBuilt S := id rfl
theorem nX6_keptCost_keptKinds (S : SX6) (v : (Nat → Int32)) : gX6_keptCost (sX6_keptKinds S v) = gX6_keptCost S := id rfl
theorem nX6_keptCredit_keptKinds (S : SX6) (v : (Nat → Int32)) : gX6_keptCredit (sX6_keptKinds S v) = gX6_keptCredit S := id rfl
theorem nX6_keptLowest_keptKinds (S : SX6) (v : (Nat → Int32)) : gX6_keptLowest (sX6_keptKinds S v) = gX6_keptLowest S := id rfl
theorem nX6_keptLogMany_keptKinds (S : SX6) (v : (Nat → Int32)) : gX6_keptLogMany (sX6_keptKinds S v) = gX6_keptLogMany S := id rfl
theorem nX6_keptSeen_keptKinds (S : SX6) (v : (Nat → Int32)) : gX6_keptSeen (sX6_keptKinds S v) = gX6_keptSeen S := id rfl
theorem nX6_keptLeft_keptKinds (S : SX6) (v : (Nat → Int32)) : gX6_keptLeft (sX6_keptKinds S v) = gX6_keptLeft S := id rfl
theorem nX6_keptRight_keptKinds (S : SX6) (v : (Nat → Int32)) : gX6_keptRight (sX6_keptKinds S v) = gX6_keptRight S := id rfl
theorem nX6_keptAbove_keptKinds (S : SX6) (v : (Nat → Int32)) : gX6_keptAbove (sX6_keptKinds S v) = gX6_keptAbove S := id rfl
theorem nX6_keptThere_keptKinds (S : SX6) (v : (Nat → Int32)) : gX6_keptThere (sX6_keptKinds S v) = gX6_keptThere S := id rfl
theorem nX6_keptKinds_keptKinds (S : SX6) (v : (Nat → Int32)) : gX6_keptKinds (sX6_keptKinds S v) = v := id rfl
theorem nX6_keptValues_keptKinds (S : SX6) (v : (Nat → Int32)) : gX6_keptValues (sX6_keptKinds S v) = gX6_keptValues S := id rfl
theorem nX6_keptLog_keptKinds (S : SX6) (v : (Nat → Int32)) : gX6_keptLog (sX6_keptKinds S v) = gX6_keptLog S := id rfl
theorem nX6_keptSights_keptKinds (S : SX6) (v : (Nat → Int32)) : gX6_keptSights (sX6_keptKinds S v) = gX6_keptSights S := id rfl
theorem nX6_hash_keptKinds (S : SX6) (v : (Nat → Int32)) : gX6_hash (sX6_keptKinds S v) = gX6_hash S := id rfl
theorem nX6_page_keptValues (S : SX6) (v : (Nat → Int32)) : gX6_page (sX6_keptValues S v) = gX6_page S := id rfl
theorem nX6_pageMany_keptValues (S : SX6) (v : (Nat → Int32)) : gX6_pageMany (sX6_keptValues S v) = gX6_pageMany S := id rfl
theorem nX6_left_keptValues (S : SX6) (v : (Nat → Int32)) : gX6_left (sX6_keptValues S v) = gX6_left S := id rfl
theorem nX6_right_keptValues (S : SX6) (v : (Nat → Int32)) : gX6_right (sX6_keptValues S v) = gX6_right S := id rfl
theorem nX6_above_keptValues (S : SX6) (v : (Nat → Int32)) : gX6_above (sX6_keptValues S v) = gX6_above S := id rfl
theorem nX6_there_keptValues (S : SX6) (v : (Nat → Int32)) : gX6_there (sX6_keptValues S v) = gX6_there S := id rfl
theorem nX6_root_keptValues (S : SX6) (v : (Nat → Int32)) : gX6_root (sX6_keptValues S v) = gX6_root S := id rfl
theorem nX6_many_keptValues (S : SX6) (v : (Nat → Int32)) : gX6_many (sX6_keptValues S v) = gX6_many S := id rfl
theorem nX6_most_keptValues (S : SX6) (v : (Nat → Int32)) : gX6_most (sX6_keptValues S v) = gX6_most S := id rfl
theorem nX6_builtNow_keptValues (S : SX6) (v : (Nat → Int32)) : gX6_builtNow (sX6_keptValues S v) = gX6_builtNow S := id rfl
theorem nX6_built_keptValues (S : SX6) (v : (Nat → Int32)) : gX6_built (sX6_keptValues S v) = gX6_built S := id rfl
theorem nX6_cost_keptValues (S : SX6) (v : (Nat → Int32)) : gX6_cost (sX6_keptValues S v) = gX6_cost S := id rfl
theorem nX6_kinds_keptValues (S : SX6) (v : (Nat → Int32)) : gX6_kinds (sX6_keptValues S v) = gX6_kinds S := id rfl
theorem nX6_values_keptValues (S : SX6) (v : (Nat → Int32)) : gX6_values (sX6_keptValues S v) = gX6_values S := id rfl
theorem nX6_ratioA_keptValues (S : SX6) (v : (Nat → Int32)) : gX6_ratioA (sX6_keptValues S v) = gX6_ratioA S := id rfl
theorem nX6_ratioB_keptValues (S : SX6) (v : (Nat → Int32)) : gX6_ratioB (sX6_keptValues S v) = gX6_ratioB S := id rfl
theorem nX6_thenA_keptValues (S : SX6) (v : (Nat → Int32)) : gX6_thenA (sX6_keptValues S v) = gX6_thenA S := id rfl
theorem nX6_thenB_keptValues (S : SX6) (v : (Nat → Int32)) : gX6_thenB (sX6_keptValues S v) = gX6_thenB S := id rfl
theorem nX6_fee_keptValues (S : SX6) (v : (Nat → Int32)) : gX6_fee (sX6_keptValues S v) = gX6_fee S := id rfl
theorem nX6_credit_keptValues (S : SX6) (v : (Nat → Int32)) : gX6_credit (sX6_keptValues S v) = gX6_credit S := id rfl
theorem nX6_lowest_keptValues (S : SX6) (v : (Nat → Int32)) : gX6_lowest (sX6_keptValues S v) = gX6_lowest S := id rfl
theorem nX6_log_keptValues (S : SX6) (v : (Nat → Int32)) : gX6_log (sX6_keptValues S v) = gX6_log S := id rfl
theorem nX6_logMany_keptValues (S : SX6) (v : (Nat → Int32)) : gX6_logMany (sX6_keptValues S v) = gX6_logMany S := id rfl
theorem nX6_shelvesRead_keptValues (S : SX6) (v : (Nat → Int32)) : gX6_shelvesRead (sX6_keptValues S v) = gX6_shelvesRead S := id rfl
theorem nX6_row_keptValues (S : SX6) (v : (Nat → Int32)) : gX6_row (sX6_keptValues S v) = gX6_row S := id rfl
theorem nX6_spanLow_keptValues (S : SX6) (v : (Nat → Int32)) : gX6_spanLow (sX6_keptValues S v) = gX6_spanLow S := id rfl
theorem nX6_spanHigh_keptValues (S : SX6) (v : (Nat → Int32)) : gX6_spanHigh (sX6_keptValues S v) = gX6_spanHigh S := id rfl
theorem nX6_spanOn_keptValues (S : SX6) (v : (Nat → Int32)) : gX6_spanOn (sX6_keptValues S v) = gX6_spanOn S := id rfl
theorem nX6_seenMany_keptValues (S : SX6) (v : (Nat → Int32)) : gX6_seenMany (sX6_keptValues S v) = gX6_seenMany S := id rfl
theorem nX6_sights_keptValues (S : SX6) (v : (Nat → Int32)) : gX6_sights (sX6_keptValues S v) = gX6_sights S := id rfl
theorem nX6_seedNow_keptValues (S : SX6) (v : (Nat → Int32)) : gX6_seedNow (sX6_keptValues S v) = gX6_seedNow S := id rfl
theorem nX6_keptShelf_keptValues (S : SX6) (v : (Nat → Int32)) : gX6_keptShelf (sX6_keptValues S v) = gX6_keptShelf S := id rfl
theorem nX6_keptRoot_keptValues (S : SX6) (v : (Nat → Int32)) : gX6_keptRoot (sX6_keptValues S v) = gX6_keptRoot S := id rfl
theorem nX6_keptMany_keptValues (S : SX6) (v : (Nat → Int32)) : gX6_keptMany (sX6_keptValues S v) = gX6_keptMany S := id rfl
theorem nX6_keptMost_keptValues (S : SX6) (v : (Nat → Int32)) : gX6_keptMost (sX6_keptValues S v) = gX6_keptMost S := id rfl
theorem nX6_keptBuilt_keptValues (S : SX6) (v : (Nat → Int32)) : gX6_keptBuilt (sX6_keptValues S v) = gX6_keptBuilt S := id rfl
theorem nX6_keptCost_keptValues (S : SX6) (v : (Nat → Int32)) : gX6_keptCost (sX6_keptValues S v) = gX6_keptCost S := id rfl
theorem nX6_keptCredit_keptValues (S : SX6) (v : (Nat → Int32)) : gX6_keptCredit (sX6_keptValues S v) = gX6_keptCredit S := id rfl
theorem nX6_keptLowest_keptValues (S : SX6) (v : (Nat → Int32)) : gX6_keptLowest (sX6_keptValues S v) = gX6_keptLowest S := id rfl
theorem nX6_keptLogMany_keptValues (S : SX6) (v : (Nat → Int32)) : gX6_keptLogMany (sX6_keptValues S v) = gX6_keptLogMany S := id rfl
theorem nX6_keptSeen_keptValues (S : SX6) (v : (Nat → Int32)) : gX6_keptSeen (sX6_keptValues S v) = gX6_keptSeen S := id rfl
theorem nX6_keptLeft_keptValues (S : SX6) (v : (Nat → Int32)) : gX6_keptLeft (sX6_keptValues S v) = gX6_keptLeft S := id rfl
theorem nX6_keptRight_keptValues (S : SX6) (v : (Nat → Int32)) : gX6_keptRight (sX6_keptValues S v) = gX6_keptRight S := id rfl
theorem nX6_keptAbove_keptValues (S : SX6) (v : (Nat → Int32)) : gX6_keptAbove (sX6_keptValues S v) = gX6_keptAbove S := id rfl
theorem nX6_keptThere_keptValues (S : SX6) (v : (Nat → Int32)) : gX6_keptThere (sX6_keptValues S v) = gX6_keptThere S := id rfl
theorem nX6_keptKinds_keptValues (S : SX6) (v : (Nat → Int32)) : gX6_keptKinds (sX6_keptValues S v) = gX6_keptKinds S := id rfl
theorem nX6_keptValues_keptValues (S : SX6) (v : (Nat → Int32)) : gX6_keptValues (sX6_keptValues S v) = v := id rfl
theorem nX6_keptLog_keptValues (S : SX6) (v : (Nat → Int32)) : gX6_keptLog (sX6_keptValues S v) = gX6_keptLog S := id rfl
theorem nX6_keptSights_keptValues (S : SX6) (v : (Nat → Int32)) : gX6_keptSights (sX6_keptValues S v) = gX6_keptSights S := id rfl
theorem nX6_hash_keptValues (S : SX6) (v : (Nat → Int32)) : gX6_hash (sX6_keptValues S v) = gX6_hash S := id rfl
theorem nX6_page_keptLog (S : SX6) (v : (Nat → Int32)) : gX6_page (sX6_keptLog S v) = gX6_page S := id rfl
theorem nX6_pageMany_keptLog (S : SX6) (v : (Nat → Int32)) : gX6_pageMany (sX6_keptLog S v) = gX6_pageMany S := id rfl
theorem nX6_left_keptLog (S : SX6) (v : (Nat → Int32)) : gX6_left (sX6_keptLog S v) = gX6_left S := id rfl
theorem nX6_right_keptLog (S : SX6) (v : (Nat → Int32)) : gX6_right (sX6_keptLog S v) = gX6_right S := id rfl
theorem nX6_above_keptLog (S : SX6) (v : (Nat → Int32)) : gX6_above (sX6_keptLog S v) = gX6_above S := id rfl
theorem nX6_there_keptLog (S : SX6) (v : (Nat → Int32)) : gX6_there (sX6_keptLog S v) = gX6_there S := id rfl
theorem nX6_root_keptLog (S : SX6) (v : (Nat → Int32)) : gX6_root (sX6_keptLog S v) = gX6_root S := id rfl
theorem nX6_many_keptLog (S : SX6) (v : (Nat → Int32)) : gX6_many (sX6_keptLog S v) = gX6_many S := id rfl
theorem nX6_most_keptLog (S : SX6) (v : (Nat → Int32)) : gX6_most (sX6_keptLog S v) = gX6_most S := id rfl
theorem nX6_builtNow_keptLog (S : SX6) (v : (Nat → Int32)) : gX6_builtNow (sX6_keptLog S v) = gX6_builtNow S := id rfl
theorem nX6_built_keptLog (S : SX6) (v : (Nat → Int32)) : gX6_built (sX6_keptLog S v) = gX6_built S := id rfl
theorem nX6_cost_keptLog (S : SX6) (v : (Nat → Int32)) : gX6_cost (sX6_keptLog S v) = gX6_cost S := id rfl
theorem nX6_kinds_keptLog (S : SX6) (v : (Nat → Int32)) : gX6_kinds (sX6_keptLog S v) = gX6_kinds S := id rfl
theorem nX6_values_keptLog (S : SX6) (v : (Nat → Int32)) : gX6_values (sX6_keptLog S v) = gX6_values S := id rfl
theorem nX6_ratioA_keptLog (S : SX6) (v : (Nat → Int32)) : gX6_ratioA (sX6_keptLog S v) = gX6_ratioA S := id rfl
theorem nX6_ratioB_keptLog (S : SX6) (v : (Nat → Int32)) : gX6_ratioB (sX6_keptLog S v) = gX6_ratioB S := id rfl
theorem nX6_thenA_keptLog (S : SX6) (v : (Nat → Int32)) : gX6_thenA (sX6_keptLog S v) = gX6_thenA S := id rfl
theorem nX6_thenB_keptLog (S : SX6) (v : (Nat → Int32)) : gX6_thenB (sX6_keptLog S v) = gX6_thenB S := id rfl
theorem nX6_fee_keptLog (S : SX6) (v : (Nat → Int32)) : gX6_fee (sX6_keptLog S v) = gX6_fee S := id rfl
theorem nX6_credit_keptLog (S : SX6) (v : (Nat → Int32)) : gX6_credit (sX6_keptLog S v) = gX6_credit S := id rfl
theorem nX6_lowest_keptLog (S : SX6) (v : (Nat → Int32)) : gX6_lowest (sX6_keptLog S v) = gX6_lowest S := id rfl
theorem nX6_log_keptLog (S : SX6) (v : (Nat → Int32)) : gX6_log (sX6_keptLog S v) = gX6_log S := id rfl
theorem nX6_logMany_keptLog (S : SX6) (v : (Nat → Int32)) : gX6_logMany (sX6_keptLog S v) = gX6_logMany S := id rfl
theorem nX6_shelvesRead_keptLog (S : SX6) (v : (Nat → Int32)) : gX6_shelvesRead (sX6_keptLog S v) = gX6_shelvesRead S := id rfl
theorem nX6_row_keptLog (S : SX6) (v : (Nat → Int32)) : gX6_row (sX6_keptLog S v) = gX6_row S := id rfl
theorem nX6_spanLow_keptLog (S : SX6) (v : (Nat → Int32)) : gX6_spanLow (sX6_keptLog S v) = gX6_spanLow S := id rfl
theorem nX6_spanHigh_keptLog (S : SX6) (v : (Nat → Int32)) : gX6_spanHigh (sX6_keptLog S v) = gX6_spanHigh S := id rfl
theorem nX6_spanOn_keptLog (S : SX6) (v : (Nat → Int32)) : gX6_spanOn (sX6_keptLog S v) = gX6_spanOn S := id rfl
theorem nX6_seenMany_keptLog (S : SX6) (v : (Nat → Int32)) : gX6_seenMany (sX6_keptLog S v) = gX6_seenMany S := id rfl
theorem nX6_sights_keptLog (S : SX6) (v : (Nat → Int32)) : gX6_sights (sX6_keptLog S v) = gX6_sights S := id rfl
theorem nX6_seedNow_keptLog (S : SX6) (v : (Nat → Int32)) : gX6_seedNow (sX6_keptLog S v) = gX6_seedNow S := id rfl
theorem nX6_keptShelf_keptLog (S : SX6) (v : (Nat → Int32)) : gX6_keptShelf (sX6_keptLog S v) = gX6_keptShelf S := id rfl
theorem nX6_keptRoot_keptLog (S : SX6) (v : (Nat → Int32)) : gX6_keptRoot (sX6_keptLog S v) = gX6_keptRoot S := id rfl
theorem nX6_keptMany_keptLog (S : SX6) (v : (Nat → Int32)) : gX6_keptMany (sX6_keptLog S v) = gX6_keptMany S := id rfl
theorem nX6_keptMost_keptLog (S : SX6) (v : (Nat → Int32)) : gX6_keptMost (sX6_keptLog S v) = gX6_keptMost S := id rfl
theorem nX6_keptBuilt_keptLog (S : SX6) (v : (Nat → Int32)) : gX6_keptBuilt (sX6_keptLog S v) = gX6_keptBuilt S := id rfl
theorem nX6_keptCost_keptLog (S : SX6) (v : (Nat → Int32)) : gX6_keptCost (sX6_keptLog S v) = gX6_keptCost S := id rfl
theorem nX6_keptCredit_keptLog (S : SX6) (v : (Nat → Int32)) : gX6_keptCredit (sX6_keptLog S v) = gX6_keptCredit S := id rfl
theorem nX6_keptLowest_keptLog (S : SX6) (v : (Nat → Int32)) : gX6_keptLowest (sX6_keptLog S v) = gX6_keptLowest S := id rfl
theorem nX6_keptLogMany_keptLog (S : SX6) (v : (Nat → Int32)) : gX6_keptLogMany (sX6_keptLog S v) = gX6_keptLogMany S := id rfl
theorem nX6_keptSeen_keptLog (S : SX6) (v : (Nat → Int32)) : gX6_keptSeen (sX6_keptLog S v) = gX6_keptSeen S := id rfl
theorem nX6_keptLeft_keptLog (S : SX6) (v : (Nat → Int32)) : gX6_keptLeft (sX6_keptLog S v) = gX6_keptLeft S := id rfl
theorem nX6_keptRight_keptLog (S : SX6) (v : (Nat → Int32)) : gX6_keptRight (sX6_keptLog S v) = gX6_keptRight S := id rfl
theorem nX6_keptAbove_keptLog (S : SX6) (v : (Nat → Int32)) : gX6_keptAbove (sX6_keptLog S v) = gX6_keptAbove S := id rfl
theorem nX6_keptThere_keptLog (S : SX6) (v : (Nat → Int32)) : gX6_keptThere (sX6_keptLog S v) = gX6_keptThere S := id rfl
theorem nX6_keptKinds_keptLog (S : SX6) (v : (Nat → Int32)) : gX6_keptKinds (sX6_keptLog S v) = gX6_keptKinds S := id rfl
theorem nX6_keptValues_keptLog (S : SX6) (v : (Nat → Int32)) : gX6_keptValues (sX6_keptLog S v) = gX6_keptValues S := id rfl
theorem nX6_keptLog_keptLog (S : SX6) (v : (Nat → Int32)) : gX6_keptLog (sX6_keptLog S v) = v := id rfl
theorem nX6_keptSights_keptLog (S : SX6) (v : (Nat → Int32)) : gX6_keptSights (sX6_keptLog S v) = gX6_keptSights S := id rfl
theorem nX6_hash_keptLog (S : SX6) (v : (Nat → Int32)) : gX6_hash (sX6_keptLog S v) = gX6_hash S := id rfl
theorem nX6_page_keptSights (S : SX6) (v : (Nat → Int32)) : gX6_page (sX6_keptSights S v) = gX6_page S := id rfl
theorem nX6_pageMany_keptSights (S : SX6) (v : (Nat → Int32)) : gX6_pageMany (sX6_keptSights S v) = gX6_pageMany S := id rfl
theorem nX6_left_keptSights (S : SX6) (v : (Nat → Int32)) : gX6_left (sX6_keptSights S v) = gX6_left S := id rfl
theorem nX6_right_keptSights (S : SX6) (v : (Nat → Int32)) : gX6_right (sX6_keptSights S v) = gX6_right S := id rfl
theorem nX6_above_keptSights (S : SX6) (v : (Nat → Int32)) : gX6_above (sX6_keptSights S v) = gX6_above S := id rfl
theorem nX6_there_keptSights (S : SX6) (v : (Nat → Int32)) : gX6_there (sX6_keptSights S v) = gX6_there S := id rfl
theorem nX6_root_keptSights (S : SX6) (v : (Nat → Int32)) : gX6_root (sX6_keptSights S v) = gX6_root S := id rfl
theorem nX6_many_keptSights (S : SX6) (v : (Nat → Int32)) : gX6_many (sX6_keptSights S v) = gX6_many S := id rfl
theorem nX6_most_keptSights (S : SX6) (v : (Nat → Int32)) : gX6_most (sX6_keptSights S v) = gX6_most S := id rfl
theorem nX6_builtNow_keptSights (S : SX6) (v : (Nat → Int32)) : gX6_builtNow (sX6_keptSights S v) = gX6_builtNow S := id rfl
theorem nX6_built_keptSights (S : SX6) (v : (Nat → Int32)) : gX6_built (sX6_keptSights S v) = gX6_built S := id rfl
theorem nX6_cost_keptSights (S : SX6) (v : (Nat → Int32)) : gX6_cost (sX6_keptSights S v) = gX6_cost S := id rfl
theorem nX6_kinds_keptSights (S : SX6) (v : (Nat → Int32)) : gX6_kinds (sX6_keptSights S v) = gX6_kinds S := id rfl
theorem nX6_values_keptSights (S : SX6) (v : (Nat → Int32)) : gX6_values (sX6_keptSights S v) = gX6_values S := id rfl
theorem nX6_ratioA_keptSights (S : SX6) (v : (Nat → Int32)) : gX6_ratioA (sX6_keptSights S v) = gX6_ratioA S := id rfl
theorem nX6_ratioB_keptSights (S : SX6) (v : (Nat → Int32)) : gX6_ratioB (sX6_keptSights S v) = gX6_ratioB S := id rfl
theorem nX6_thenA_keptSights (S : SX6) (v : (Nat → Int32)) : gX6_thenA (sX6_keptSights S v) = gX6_thenA S := id rfl
theorem nX6_thenB_keptSights (S : SX6) (v : (Nat → Int32)) : gX6_thenB (sX6_keptSights S v) = gX6_thenB S := id rfl
theorem nX6_fee_keptSights (S : SX6) (v : (Nat → Int32)) : gX6_fee (sX6_keptSights S v) = gX6_fee S := id rfl
theorem nX6_credit_keptSights (S : SX6) (v : (Nat → Int32)) : gX6_credit (sX6_keptSights S v) = gX6_credit S := id rfl
theorem nX6_lowest_keptSights (S : SX6) (v : (Nat → Int32)) : gX6_lowest (sX6_keptSights S v) = gX6_lowest S := id rfl
theorem nX6_log_keptSights (S : SX6) (v : (Nat → Int32)) : gX6_log (sX6_keptSights S v) = gX6_log S := id rfl
theorem nX6_logMany_keptSights (S : SX6) (v : (Nat → Int32)) : gX6_logMany (sX6_keptSights S v) = gX6_logMany S := id rfl
theorem nX6_shelvesRead_keptSights (S : SX6) (v : (Nat → Int32)) : gX6_shelvesRead (sX6_keptSights S v) = gX6_shelvesRead S := id rfl
theorem nX6_row_keptSights (S : SX6) (v : (Nat → Int32)) : gX6_row (sX6_keptSights S v) = gX6_row S := id rfl
theorem nX6_spanLow_keptSights (S : SX6) (v : (Nat → Int32)) : gX6_spanLow (sX6_keptSights S v) = gX6_spanLow S := id rfl
theorem nX6_spanHigh_keptSights (S : SX6) (v : (Nat → Int32)) : gX6_spanHigh (sX6_keptSights S v) = gX6_spanHigh S := id rfl
theorem nX6_spanOn_keptSights (S : SX6) (v : (Nat → Int32)) : gX6_spanOn (sX6_keptSights S v) = gX6_spanOn S := id rfl
theorem nX6_seenMany_keptSights (S : SX6) (v : (Nat → Int32)) : gX6_seenMany (sX6_keptSights S v) = gX6_seenMany S := id rfl
theorem nX6_sights_keptSights (S : SX6) (v : (Nat → Int32)) : gX6_sights (sX6_keptSights S v) = gX6_sights S := id rfl
theorem nX6_seedNow_keptSights (S : SX6) (v : (Nat → Int32)) : gX6_seedNow (sX6_keptSights S v) = gX6_seedNow S := id rfl
theorem nX6_keptShelf_keptSights (S : SX6) (v : (Nat → Int32)) : gX6_keptShelf (sX6_keptSights S v) = gX6_keptShelf S := id rfl
theorem nX6_keptRoot_keptSights (S : SX6) (v : (Nat → Int32)) : gX6_keptRoot (sX6_keptSights S v) = gX6_keptRoot S := id rfl
theorem nX6_keptMany_keptSights (S : SX6) (v : (Nat → Int32)) : gX6_keptMany (sX6_keptSights S v) = gX6_keptMany S := id rfl
theorem nX6_keptMost_keptSights (S : SX6) (v : (Nat → Int32)) : gX6_keptMost (sX6_keptSights S v) = gX6_keptMost S := id rfl
theorem nX6_keptBuilt_keptSights (S : SX6) (v : (Nat → Int32)) : gX6_keptBuilt (sX6_keptSights S v) = gX6_keptBuilt S := id rfl
theorem nX6_keptCost_keptSights (S : SX6) (v : (Nat → Int32)) : gX6_keptCost (sX6_keptSights S v) = gX6_keptCost S := id rfl
theorem nX6_keptCredit_keptSights (S : SX6) (v : (Nat → Int32)) : gX6_keptCredit (sX6_keptSights S v) = gX6_keptCredit S := id rfl
theorem nX6_keptLowest_keptSights (S : SX6) (v : (Nat → Int32)) : gX6_keptLowest (sX6_keptSights S v) = gX6_keptLowest S := id rfl
theorem nX6_keptLogMany_keptSights (S : SX6) (v : (Nat → Int32)) : gX6_keptLogMany (sX6_keptSights S v) = gX6_keptLogMany S := id rfl
theorem nX6_keptSeen_keptSights (S : SX6) (v : (Nat → Int32)) : gX6_keptSeen (sX6_keptSights S v) = gX6_keptSeen S := id rfl
theorem nX6_keptLeft_keptSights (S : SX6) (v : (Nat → Int32)) : gX6_keptLeft (sX6_keptSights S v) = gX6_keptLeft S := id rfl
theorem nX6_keptRight_keptSights (S : SX6) (v : (Nat → Int32)) : gX6_keptRight (sX6_keptSights S v) = gX6_keptRight S := id rfl
theorem nX6_keptAbove_keptSights (S : SX6) (v : (Nat → Int32)) : gX6_keptAbove (sX6_keptSights S v) = gX6_keptAbove S := id rfl
theorem nX6_keptThere_keptSights (S : SX6) (v : (Nat → Int32)) : gX6_keptThere (sX6_keptSights S v) = gX6_keptThere S := id rfl
theorem nX6_keptKinds_keptSights (S : SX6) (v : (Nat → Int32)) : gX6_keptKinds (sX6_keptSights S v) = gX6_keptKinds S := id rfl
theorem nX6_keptValues_keptSights (S : SX6) (v : (Nat → Int32)) : gX6_keptValues (sX6_keptSights S v) = gX6_keptValues S := id rfl
theorem nX6_keptLog_keptSights (S : SX6) (v : (Nat → Int32)) : gX6_keptLog (sX6_keptSights S v) = gX6_keptLog S := id rfl
theorem nX6_keptSights_keptSights (S : SX6) (v : (Nat → Int32)) : gX6_keptSights (sX6_keptSights S v) = v := id rfl
theorem nX6_hash_keptSights (S : SX6) (v : (Nat → Int32)) : gX6_hash (sX6_keptSights S v) = gX6_hash S := id rfl
