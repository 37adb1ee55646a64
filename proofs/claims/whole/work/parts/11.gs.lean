/-! what a field holds behind a write -/
theorem eX0_keys_keys (S : SX0) (v : (Nat → Int32)) : gX0_keys (sX0_keys S v) = v := rfl
theorem eX0_length_keys (S : SX0) (v : (Nat → Int32)) : gX0_length (sX0_keys S v) = gX0_length S := rfl
theorem eX0_keys_length (S : SX0) (v : Int32) : gX0_keys (sX0_length S v) = gX0_keys S := rfl
theorem eX0_length_length (S : SX0) (v : Int32) : gX0_length (sX0_length S v) = v := rfl
theorem eX1_letters_letters (S : SX1) (v : (Nat → Int32)) : gX1_letters (sX1_letters S v) = v := rfl
theorem eX1_length_letters (S : SX1) (v : (Nat → Int32)) : gX1_length (sX1_letters S v) = gX1_length S := rfl
theorem eX1_letters_length (S : SX1) (v : Int32) : gX1_letters (sX1_length S v) = gX1_letters S := rfl
theorem eX1_length_length (S : SX1) (v : Int32) : gX1_length (sX1_length S v) = v := rfl
theorem eX2_keys_keys (S : SX2) (v : (Nat → Int32)) : gX2_keys (sX2_keys S v) = v := rfl
theorem eX2_fitting_keys (S : SX2) (v : (Nat → Int32)) : gX2_fitting (sX2_keys S v) = gX2_fitting S := rfl
theorem eX2_length_keys (S : SX2) (v : (Nat → Int32)) : gX2_length (sX2_keys S v) = gX2_length S := rfl
theorem eX2_keys_fitting (S : SX2) (v : (Nat → Int32)) : gX2_keys (sX2_fitting S v) = gX2_keys S := rfl
theorem eX2_fitting_fitting (S : SX2) (v : (Nat → Int32)) : gX2_fitting (sX2_fitting S v) = v := rfl
theorem eX2_length_fitting (S : SX2) (v : (Nat → Int32)) : gX2_length (sX2_fitting S v) = gX2_length S := rfl
theorem eX2_keys_length (S : SX2) (v : Int32) : gX2_keys (sX2_length S v) = gX2_keys S := rfl
theorem eX2_fitting_length (S : SX2) (v : Int32) : gX2_fitting (sX2_length S v) = gX2_fitting S := rfl
theorem eX2_length_length (S : SX2) (v : Int32) : gX2_length (sX2_length S v) = v := rfl
theorem eX3_tree_tree (S : SX3) (v : SX4) : gX3_tree (sX3_tree S v) = v := rfl
theorem eX3_kinds_tree (S : SX3) (v : SX4) : gX3_kinds (sX3_tree S v) = gX3_kinds S := rfl
theorem eX3_values_tree (S : SX3) (v : SX4) : gX3_values (sX3_tree S v) = gX3_values S := rfl
theorem eX3_log_tree (S : SX3) (v : SX4) : gX3_log (sX3_tree S v) = gX3_log S := rfl
theorem eX3_seen_tree (S : SX3) (v : SX4) : gX3_seen (sX3_tree S v) = gX3_seen S := rfl
theorem eX3_fee_tree (S : SX3) (v : SX4) : gX3_fee (sX3_tree S v) = gX3_fee S := rfl
theorem eX3_credit_tree (S : SX3) (v : SX4) : gX3_credit (sX3_tree S v) = gX3_credit S := rfl
theorem eX3_lowest_tree (S : SX3) (v : SX4) : gX3_lowest (sX3_tree S v) = gX3_lowest S := rfl
theorem eX3_tree_kinds (S : SX3) (v : (Nat → Int32)) : gX3_tree (sX3_kinds S v) = gX3_tree S := rfl
theorem eX3_kinds_kinds (S : SX3) (v : (Nat → Int32)) : gX3_kinds (sX3_kinds S v) = v := rfl
theorem eX3_values_kinds (S : SX3) (v : (Nat → Int32)) : gX3_values (sX3_kinds S v) = gX3_values S := rfl
theorem eX3_log_kinds (S : SX3) (v : (Nat → Int32)) : gX3_log (sX3_kinds S v) = gX3_log S := rfl
theorem eX3_seen_kinds (S : SX3) (v : (Nat → Int32)) : gX3_seen (sX3_kinds S v) = gX3_seen S := rfl
theorem eX3_fee_kinds (S : SX3) (v : (Nat → Int32)) : gX3_fee (sX3_kinds S v) = gX3_fee S := rfl
theorem eX3_credit_kinds (S : SX3) (v : (Nat → Int32)) : gX3_credit (sX3_kinds S v) = gX3_credit S := rfl
theorem eX3_lowest_kinds (S : SX3) (v : (Nat → Int32)) : gX3_lowest (sX3_kinds S v) = gX3_lowest S := rfl
theorem eX3_tree_values (S : SX3) (v : (Nat → Int32)) : gX3_tree (sX3_values S v) = gX3_tree S := rfl
theorem eX3_kinds_values (S : SX3) (v : (Nat → Int32)) : gX3_kinds (sX3_values S v) = gX3_kinds S := rfl
theorem eX3_values_values (S : SX3) (v : (Nat → Int32)) : gX3_values (sX3_values S v) = v := rfl
theorem eX3_log_values (S : SX3) (v : (Nat → Int32)) : gX3_log (sX3_values S v) = gX3_log S := rfl
theorem eX3_seen_values (S : SX3) (v : (Nat → Int32)) : gX3_seen (sX3_values S v) = gX3_seen S := rfl
theorem eX3_fee_values (S : SX3) (v : (Nat → Int32)) : gX3_fee (sX3_values S v) = gX3_fee S := rfl
theorem eX3_credit_values (S : SX3) (v : (Nat → Int32)) : gX3_credit (sX3_values S v) = gX3_credit S := rfl
theorem eX3_lowest_values (S : SX3) (v : (Nat → Int32)) : gX3_lowest (sX3_values S v) = gX3_lowest S := rfl
theorem eX3_tree_log (S : SX3) (v : SX0) : gX3_tree (sX3_log S v) = gX3_tree S := rfl
theorem eX3_kinds_log (S : SX3) (v : SX0) : gX3_kinds (sX3_log S v) = gX3_kinds S := rfl
theorem eX3_values_log (S : SX3) (v : SX0) : gX3_values (sX3_log S v) = gX3_values S := rfl
theorem eX3_log_log (S : SX3) (v : SX0) : gX3_log (sX3_log S v) = v := rfl
theorem eX3_seen_log (S : SX3) (v : SX0) : gX3_seen (sX3_log S v) = gX3_seen S := rfl
theorem eX3_fee_log (S : SX3) (v : SX0) : gX3_fee (sX3_log S v) = gX3_fee S := rfl
theorem eX3_credit_log (S : SX3) (v : SX0) : gX3_credit (sX3_log S v) = gX3_credit S := rfl
theorem eX3_lowest_log (S : SX3) (v : SX0) : gX3_lowest (sX3_log S v) = gX3_lowest S := rfl
theorem eX3_tree_seen (S : SX3) (v : SX2) : gX3_tree (sX3_seen S v) = gX3_tree S := rfl
theorem eX3_kinds_seen (S : SX3) (v : SX2) : gX3_kinds (sX3_seen S v) = gX3_kinds S := rfl
theorem eX3_values_seen (S : SX3) (v : SX2) : gX3_values (sX3_seen S v) = gX3_values S := rfl
theorem eX3_log_seen (S : SX3) (v : SX2) : gX3_log (sX3_seen S v) = gX3_log S := rfl
theorem eX3_seen_seen (S : SX3) (v : SX2) : gX3_seen (sX3_seen S v) = v := rfl
theorem eX3_fee_seen (S : SX3) (v : SX2) : gX3_fee (sX3_seen S v) = gX3_fee S := rfl
theorem eX3_credit_seen (S : SX3) (v : SX2) : gX3_credit (sX3_seen S v) = gX3_credit S := rfl
theorem eX3_lowest_seen (S : SX3) (v : SX2) : gX3_lowest (sX3_seen S v) = gX3_lowest S := rfl
theorem eX3_tree_fee (S : SX3) (v : Int32) : gX3_tree (sX3_fee S v) = gX3_tree S := rfl
theorem eX3_kinds_fee (S : SX3) (v : Int32) : gX3_kinds (sX3_fee S v) = gX3_kinds S := rfl
theorem eX3_values_fee (S : SX3) (v : Int32) : gX3_values (sX3_fee S v) = gX3_values S := rfl
theorem eX3_log_fee (S : SX3) (v : Int32) : gX3_log (sX3_fee S v) = gX3_log S := rfl
theorem eX3_seen_fee (S : SX3) (v : Int32) : gX3_seen (sX3_fee S v) = gX3_seen S := rfl
theorem eX3_fee_fee (S : SX3) (v : Int32) : gX3_fee (sX3_fee S v) = v := rfl
theorem eX3_credit_fee (S : SX3) (v : Int32) : gX3_credit (sX3_fee S v) = gX3_credit S := rfl
theorem eX3_lowest_fee (S : SX3) (v : Int32) : gX3_lowest (sX3_fee S v) = gX3_lowest S := rfl
theorem eX3_tree_credit (S : SX3) (v : Int32) : gX3_tree (sX3_credit S v) = gX3_tree S := rfl
theorem eX3_kinds_credit (S : SX3) (v : Int32) : gX3_kinds (sX3_credit S v) = gX3_kinds S := rfl
theorem eX3_values_credit (S : SX3) (v : Int32) : gX3_values (sX3_credit S v) = gX3_values S := rfl
theorem eX3_log_credit (S : SX3) (v : Int32) : gX3_log (sX3_credit S v) = gX3_log S := rfl
theorem eX3_seen_credit (S : SX3) (v : Int32) : gX3_seen (sX3_credit S v) = gX3_seen S := rfl
theorem eX3_fee_credit (S : SX3) (v : Int32) : gX3_fee (sX3_credit S v) = gX3_fee S := rfl
theorem eX3_credit_credit (S : SX3) (v : Int32) : gX3_credit (sX3_credit S v) = v := rfl
theorem eX3_lowest_credit (S : SX3) (v : Int32) : gX3_lowest (sX3_credit S v) = gX3_lowest S := rfl
theorem eX3_tree_lowest (S : SX3) (v : Int32) : gX3_tree (sX3_lowest S v) = gX3_tree S := rfl
theorem eX3_kinds_lowest (S : SX3) (v : Int32) : gX3_kinds (sX3_lowest S v) = gX3_kinds S := rfl
theorem eX3_values_lowest (S : SX3) (v : Int32) : gX3_values (sX3_lowest S v) = gX3_values S := rfl
theorem eX3_log_lowest (S : SX3) (v : Int32) : gX3_log (sX3_lowest S v) = gX3_log S := rfl
theorem eX3_seen_lowest (S : SX3) (v : Int32) : gX3_seen (sX3_lowest S v) = gX3_seen S := rfl
theorem eX3_fee_lowest (S : SX3) (v : Int32) : gX3_fee (sX3_lowest S v) = gX3_fee S := rfl
theorem eX3_credit_lowest (S : SX3) (v : Int32) : gX3_credit (sX3_lowest S v) = gX3_credit S := rfl
theorem eX3_lowest_lowest (S : SX3) (v : Int32) : gX3_lowest (sX3_lowest S v) = v := rfl
theorem eX4_lefts_lefts (S : SX4) (v : (Nat → Int32)) : gX4_lefts (sX4_lefts S v) = v := rfl
theorem eX4_rights_lefts (S : SX4) (v : (Nat → Int32)) : gX4_rights (sX4_lefts S v) = gX4_rights S := rfl
theorem eX4_sizes_lefts (S : SX4) (v : (Nat → Int32)) : gX4_sizes (sX4_lefts S v) = gX4_sizes S := rfl
theorem eX4_way_lefts (S : SX4) (v : (Nat → Int32)) : gX4_way (sX4_lefts S v) = gX4_way S := rfl
theorem eX4_row_lefts (S : SX4) (v : (Nat → Int32)) : gX4_row (sX4_lefts S v) = gX4_row S := rfl
theorem eX4_root_lefts (S : SX4) (v : (Nat → Int32)) : gX4_root (sX4_lefts S v) = gX4_root S := rfl
theorem eX4_a_lefts (S : SX4) (v : (Nat → Int32)) : gX4_a (sX4_lefts S v) = gX4_a S := rfl
theorem eX4_b_lefts (S : SX4) (v : (Nat → Int32)) : gX4_b (sX4_lefts S v) = gX4_b S := rfl
theorem eX4_number_lefts (S : SX4) (v : (Nat → Int32)) : gX4_number (sX4_lefts S v) = gX4_number S := rfl
theorem eX4_most_lefts (S : SX4) (v : (Nat → Int32)) : gX4_most (sX4_lefts S v) = gX4_most S := rfl
theorem eX4_buildings_lefts (S : SX4) (v : (Nat → Int32)) : gX4_buildings (sX4_lefts S v) = gX4_buildings S := rfl
theorem eX4_cost_lefts (S : SX4) (v : (Nat → Int32)) : gX4_cost (sX4_lefts S v) = gX4_cost S := rfl
theorem eX4_lefts_rights (S : SX4) (v : (Nat → Int32)) : gX4_lefts (sX4_rights S v) = gX4_lefts S := rfl
theorem eX4_rights_rights (S : SX4) (v : (Nat → Int32)) : gX4_rights (sX4_rights S v) = v := rfl
theorem eX4_sizes_rights (S : SX4) (v : (Nat → Int32)) : gX4_sizes (sX4_rights S v) = gX4_sizes S := rfl
theorem eX4_way_rights (S : SX4) (v : (Nat → Int32)) : gX4_way (sX4_rights S v) = gX4_way S := rfl
theorem eX4_row_rights (S : SX4) (v : (Nat → Int32)) : gX4_row (sX4_rights S v) = gX4_row S := rfl
theorem eX4_root_rights (S : SX4) (v : (Nat → Int32)) : gX4_root (sX4_rights S v) = gX4_root S := rfl
theorem eX4_a_rights (S : SX4) (v : (Nat → Int32)) : gX4_a (sX4_rights S v) = gX4_a S := rfl
theorem eX4_b_rights (S : SX4) (v : (Nat → Int32)) : gX4_b (sX4_rights S v) = gX4_b S := rfl
theorem eX4_number_rights (S : SX4) (v : (Nat → Int32)) : gX4_number (sX4_rights S v) = gX4_number S := rfl
theorem eX4_most_rights (S : SX4) (v : (Nat → Int32)) : gX4_most (sX4_rights S v) = gX4_most S := rfl
theorem eX4_buildings_rights (S : SX4) (v : (Nat → Int32)) : gX4_buildings (sX4_rights S v) = gX4_buildings S := rfl
theorem eX4_cost_rights (S : SX4) (v : (Nat → Int32)) : gX4_cost (sX4_rights S v) = gX4_cost S := rfl
theorem eX4_lefts_sizes (S : SX4) (v : (Nat → Int32)) : gX4_lefts (sX4_sizes S v) = gX4_lefts S := rfl
theorem eX4_rights_sizes (S : SX4) (v : (Nat → Int32)) : gX4_rights (sX4_sizes S v) = gX4_rights S := rfl
theorem eX4_sizes_sizes (S : SX4) (v : (Nat → Int32)) : gX4_sizes (sX4_sizes S v) = v := rfl
theorem eX4_way_sizes (S : SX4) (v : (Nat → Int32)) : gX4_way (sX4_sizes S v) = gX4_way S := rfl
theorem eX4_row_sizes (S : SX4) (v : (Nat → Int32)) : gX4_row (sX4_sizes S v) = gX4_row S := rfl
theorem eX4_root_sizes (S : SX4) (v : (Nat → Int32)) : gX4_root (sX4_sizes S v) = gX4_root S := rfl
theorem eX4_a_sizes (S : SX4) (v : (Nat → Int32)) : gX4_a (sX4_sizes S v) = gX4_a S := rfl
theorem eX4_b_sizes (S : SX4) (v : (Nat → Int32)) : gX4_b (sX4_sizes S v) = gX4_b S := rfl
theorem eX4_number_sizes (S : SX4) (v : (Nat → Int32)) : gX4_number (sX4_sizes S v) = gX4_number S := rfl
theorem eX4_most_sizes (S : SX4) (v : (Nat → Int32)) : gX4_most (sX4_sizes S v) = gX4_most S := rfl
theorem eX4_buildings_sizes (S : SX4) (v : (Nat → Int32)) : gX4_buildings (sX4_sizes S v) = gX4_buildings S := rfl
theorem eX4_cost_sizes (S : SX4) (v : (Nat → Int32)) : gX4_cost (sX4_sizes S v) = gX4_cost S := rfl
theorem eX4_lefts_way (S : SX4) (v : (Nat → Int32)) : gX4_lefts (sX4_way S v) = gX4_lefts S := rfl
theorem eX4_rights_way (S : SX4) (v : (Nat → Int32)) : gX4_rights (sX4_way S v) = gX4_rights S := rfl
theorem eX4_sizes_way (S : SX4) (v : (Nat → Int32)) : gX4_sizes (sX4_way S v) = gX4_sizes S := rfl
theorem eX4_way_way (S : SX4) (v : (Nat → Int32)) : gX4_way (sX4_way S v) = v := rfl
theorem eX4_row_way (S : SX4) (v : (Nat → Int32)) : gX4_row (sX4_way S v) = gX4_row S := rfl
theorem eX4_root_way (S : SX4) (v : (Nat → Int32)) : gX4_root (sX4_way S v) = gX4_root S := rfl
theorem eX4_a_way (S : SX4) (v : (Nat → Int32)) : gX4_a (sX4_way S v) = gX4_a S := rfl
theorem eX4_b_way (S : SX4) (v : (Nat → Int32)) : gX4_b (sX4_way S v) = gX4_b S := rfl
theorem eX4_number_way (S : SX4) (v : (Nat → Int32)) : gX4_number (sX4_way S v) = gX4_number S := rfl
theorem eX4_most_way (S : SX4) (v : (Nat → Int32)) : gX4_most (sX4_way S v) = gX4_most S := rfl
theorem eX4_buildings_way (S : SX4) (v : (Nat → Int32)) : gX4_buildings (sX4_way S v) = gX4_buildings S := rfl
theorem eX4_cost_way (S : SX4) (v : (Nat → Int32)) : gX4_cost (sX4_way S v) = gX4_cost S := rfl
theorem eX4_lefts_row (S : SX4) (v : (Nat → Int32)) : gX4_lefts (sX4_row S v) = gX4_lefts S := rfl
theorem eX4_rights_row (S : SX4) (v : (Nat → Int32)) : gX4_rights (sX4_row S v) = gX4_rights S := rfl
theorem eX4_sizes_row (S : SX4) (v : (Nat → Int32)) : gX4_sizes (sX4_row S v) = gX4_sizes S := rfl
theorem eX4_way_row (S : SX4) (v : (Nat → Int32)) : gX4_way (sX4_row S v) = gX4_way S := rfl
theorem eX4_row_row (S : SX4) (v : (Nat → Int32)) : gX4_row (sX4_row S v) = v := rfl
theorem eX4_root_row (S : SX4) (v : (Nat → Int32)) : gX4_root (sX4_row S v) = gX4_root S := rfl
theorem eX4_a_row (S : SX4) (v : (Nat → Int32)) : gX4_a (sX4_row S v) = gX4_a S := rfl
theorem eX4_b_row (S : SX4) (v : (Nat → Int32)) : gX4_b (sX4_row S v) = gX4_b S := rfl
theorem eX4_number_row (S : SX4) (v : (Nat → Int32)) : gX4_number (sX4_row S v) = gX4_number S := rfl
theorem eX4_most_row (S : SX4) (v : (Nat → Int32)) : gX4_most (sX4_row S v) = gX4_most S := rfl
theorem eX4_buildings_row (S : SX4) (v : (Nat → Int32)) : gX4_buildings (sX4_row S v) = gX4_buildings S := rfl
theorem eX4_cost_row (S : SX4) (v : (Nat → Int32)) : gX4_cost (sX4_row S v) = gX4_cost S := rfl
theorem eX4_lefts_root (S : SX4) (v : Int32) : gX4_lefts (sX4_root S v) = gX4_lefts S := rfl
theorem eX4_rights_root (S : SX4) (v : Int32) : gX4_rights (sX4_root S v) = gX4_rights S := rfl
theorem eX4_sizes_root (S : SX4) (v : Int32) : gX4_sizes (sX4_root S v) = gX4_sizes S := rfl
theorem eX4_way_root (S : SX4) (v : Int32) : gX4_way (sX4_root S v) = gX4_way S := rfl
theorem eX4_row_root (S : SX4) (v : Int32) : gX4_row (sX4_root S v) = gX4_row S := rfl
theorem eX4_root_root (S : SX4) (v : Int32) : gX4_root (sX4_root S v) = v := rfl
theorem eX4_a_root (S : SX4) (v : Int32) : gX4_a (sX4_root S v) = gX4_a S := rfl
theorem eX4_b_root (S : SX4) (v : Int32) : gX4_b (sX4_root S v) = gX4_b S := rfl
theorem eX4_number_root (S : SX4) (v : Int32) : gX4_number (sX4_root S v) = gX4_number S := rfl
theorem eX4_most_root (S : SX4) (v : Int32) : gX4_most (sX4_root S v) = gX4_most S := rfl
theorem eX4_buildings_root (S : SX4) (v : Int32) : gX4_buildings (sX4_root S v) = gX4_buildings S := rfl
theorem eX4_cost_root (S : SX4) (v : Int32) : gX4_cost (sX4_root S v) = gX4_cost S := rfl
theorem eX4_lefts_a (S : SX4) (v : Int32) : gX4_lefts (sX4_a S v) = gX4_lefts S := rfl
theorem eX4_rights_a (S : SX4) (v : Int32) : gX4_rights (sX4_a S v) = gX4_rights S := rfl
theorem eX4_sizes_a (S : SX4) (v : Int32) : gX4_sizes (sX4_a S v) = gX4_sizes S := rfl
theorem eX4_way_a (S : SX4) (v : Int32) : gX4_way (sX4_a S v) = gX4_way S := rfl
theorem eX4_row_a (S : SX4) (v : Int32) : gX4_row (sX4_a S v) = gX4_row S := rfl
theorem eX4_root_a (S : SX4) (v : Int32) : gX4_root (sX4_a S v) = gX4_root S := rfl
theorem eX4_a_a (S : SX4) (v : Int32) : gX4_a (sX4_a S v) = v := rfl
theorem eX4_b_a (S : SX4) (v : Int32) : gX4_b (sX4_a S v) = gX4_b S := rfl
theorem eX4_number_a (S : SX4) (v : Int32) : gX4_number (sX4_a S v) = gX4_number S := rfl
theorem eX4_most_a (S : SX4) (v : Int32) : gX4_most (sX4_a S v) = gX4_most S := rfl
theorem eX4_buildings_a (S : SX4) (v : Int32) : gX4_buildings (sX4_a S v) = gX4_buildings S := rfl
theorem eX4_cost_a (S : SX4) (v : Int32) : gX4_cost (sX4_a S v) = gX4_cost S := rfl
theorem eX4_lefts_b (S : SX4) (v : Int32) : gX4_lefts (sX4_b S v) = gX4_lefts S := rfl
theorem eX4_rights_b (S : SX4) (v : Int32) : gX4_rights (sX4_b S v) = gX4_rights S := rfl
theorem eX4_sizes_b (S : SX4) (v : Int32) : gX4_sizes (sX4_b S v) = gX4_sizes S := rfl
theorem eX4_way_b (S : SX4) (v : Int32) : gX4_way (sX4_b S v) = gX4_way S := rfl
theorem eX4_row_b (S : SX4) (v : Int32) : gX4_row (sX4_b S v) = gX4_row S := rfl
theorem eX4_root_b (S : SX4) (v : Int32) : gX4_root (sX4_b S v) = gX4_root S := rfl
theorem eX4_a_b (S : SX4) (v : Int32) : gX4_a (sX4_b S v) = gX4_a S := rfl
theorem eX4_b_b (S : SX4) (v : Int32) : gX4_b (sX4_b S v) = v := rfl
theorem eX4_number_b (S : SX4) (v : Int32) : gX4_number (sX4_b S v) = gX4_number S := rfl
theorem eX4_most_b (S : SX4) (v : Int32) : gX4_most (sX4_b S v) = gX4_most S := rfl
theorem eX4_buildings_b (S : SX4) (v : Int32) : gX4_buildings (sX4_b S v) = gX4_buildings S := rfl
theorem eX4_cost_b (S : SX4) (v : Int32) : gX4_cost (sX4_b S v) = gX4_cost S := rfl
theorem eX4_lefts_number (S : SX4) (v : Int32) : gX4_lefts (sX4_number S v) = gX4_lefts S := rfl
theorem eX4_rights_number (S : SX4) (v : Int32) : gX4_rights (sX4_number S v) = gX4_rights S := rfl
theorem eX4_sizes_number (S : SX4) (v : Int32) : gX4_sizes (sX4_number S v) = gX4_sizes S := rfl
theorem eX4_way_number (S : SX4) (v : Int32) : gX4_way (sX4_number S v) = gX4_way S := rfl
theorem eX4_row_number (S : SX4) (v : Int32) : gX4_row (sX4_number S v) = gX4_row S := rfl
theorem eX4_root_number (S : SX4) (v : Int32) : gX4_root (sX4_number S v) = gX4_root S := rfl
theorem eX4_a_number (S : SX4) (v : Int32) : gX4_a (sX4_number S v) = gX4_a S := rfl
theorem eX4_b_number (S : SX4) (v : Int32) : gX4_b (sX4_number S v) = gX4_b S := rfl
theorem eX4_number_number (S : SX4) (v : Int32) : gX4_number (sX4_number S v) = v := rfl
theorem eX4_most_number (S : SX4) (v : Int32) : gX4_most (sX4_number S v) = gX4_most S := rfl
theorem eX4_buildings_number (S : SX4) (v : Int32) : gX4_buildings (sX4_number S v) = gX4_buildings S := rfl
theorem eX4_cost_number (S : SX4) (v : Int32) : gX4_cost (sX4_number S v) = gX4_cost S := rfl
theorem eX4_lefts_most (S : SX4) (v : Int32) : gX4_lefts (sX4_most S v) = gX4_lefts S := rfl
theorem eX4_rights_most (S : SX4) (v : Int32) : gX4_rights (sX4_most S v) = gX4_rights S := rfl
theorem eX4_sizes_most (S : SX4) (v : Int32) : gX4_sizes (sX4_most S v) = gX4_sizes S := rfl
theorem eX4_way_most (S : SX4) (v : Int32) : gX4_way (sX4_most S v) = gX4_way S := rfl
theorem eX4_row_most (S : SX4) (v : Int32) : gX4_row (sX4_most S v) = gX4_row S := rfl
theorem eX4_root_most (S : SX4) (v : Int32) : gX4_root (sX4_most S v) = gX4_root S := rfl
theorem eX4_a_most (S : SX4) (v : Int32) : gX4_a (sX4_most S v) = gX4_a S := rfl
theorem eX4_b_most (S : SX4) (v : Int32) : gX4_b (sX4_most S v) = gX4_b S := rfl
theorem eX4_number_most (S : SX4) (v : Int32) : gX4_number (sX4_most S v) = gX4_number S := rfl
theorem eX4_most_most (S : SX4) (v : Int32) : gX4_most (sX4_most S v) = v := rfl
theorem eX4_buildings_most (S : SX4) (v : Int32) : gX4_buildings (sX4_most S v) = gX4_buildings S := rfl
theorem eX4_cost_most (S : SX4) (v : Int32) : gX4_cost (sX4_most S v) = gX4_cost S := rfl
theorem eX4_lefts_buildings (S : SX4) (v : Int32) : gX4_lefts (sX4_buildings S v) = gX4_lefts S := rfl
theorem eX4_rights_buildings (S : SX4) (v : Int32) : gX4_rights (sX4_buildings S v) = gX4_rights S := rfl
theorem eX4_sizes_buildings (S : SX4) (v : Int32) : gX4_sizes (sX4_buildings S v) = gX4_sizes S := rfl
theorem eX4_way_buildings (S : SX4) (v : Int32) : gX4_way (sX4_buildings S v) = gX4_way S := rfl
theorem eX4_row_buildings (S : SX4) (v : Int32) : gX4_row (sX4_buildings S v) = gX4_row S := rfl
theorem eX4_root_buildings (S : SX4) (v : Int32) : gX4_root (sX4_buildings S v) = gX4_root S := rfl
theorem eX4_a_buildings (S : SX4) (v : Int32) : gX4_a (sX4_buildings S v) = gX4_a S := rfl
theorem eX4_b_buildings (S : SX4) (v : Int32) : gX4_b (sX4_buildings S v) = gX4_b S := rfl
theorem eX4_number_buildings (S : SX4) (v : Int32) : gX4_number (sX4_buildings S v) = gX4_number S := rfl
theorem eX4_most_buildings (S : SX4) (v : Int32) : gX4_most (sX4_buildings S v) = gX4_most S := rfl
theorem eX4_buildings_buildings (S : SX4) (v : Int32) : gX4_buildings (sX4_buildings S v) = v := rfl
theorem eX4_cost_buildings (S : SX4) (v : Int32) : gX4_cost (sX4_buildings S v) = gX4_cost S := rfl
theorem eX4_lefts_cost (S : SX4) (v : Int32) : gX4_lefts (sX4_cost S v) = gX4_lefts S := rfl
theorem eX4_rights_cost (S : SX4) (v : Int32) : gX4_rights (sX4_cost S v) = gX4_rights S := rfl
theorem eX4_sizes_cost (S : SX4) (v : Int32) : gX4_sizes (sX4_cost S v) = gX4_sizes S := rfl
theorem eX4_way_cost (S : SX4) (v : Int32) : gX4_way (sX4_cost S v) = gX4_way S := rfl
theorem eX4_row_cost (S : SX4) (v : Int32) : gX4_row (sX4_cost S v) = gX4_row S := rfl
theorem eX4_root_cost (S : SX4) (v : Int32) : gX4_root (sX4_cost S v) = gX4_root S := rfl
theorem eX4_a_cost (S : SX4) (v : Int32) : gX4_a (sX4_cost S v) = gX4_a S := rfl
theorem eX4_b_cost (S : SX4) (v : Int32) : gX4_b (sX4_cost S v) = gX4_b S := rfl
theorem eX4_number_cost (S : SX4) (v : Int32) : gX4_number (sX4_cost S v) = gX4_number S := rfl
theorem eX4_most_cost (S : SX4) (v : Int32) : gX4_most (sX4_cost S v) = gX4_most S := rfl
theorem eX4_buildings_cost (S : SX4) (v : Int32) : gX4_buildings (sX4_cost S v) = gX4_buildings S := rfl
theorem eX4_cost_cost (S : SX4) (v : Int32) : gX4_cost (sX4_cost S v) = v := rfl
theorem eX5_page_page (S : SX5) (v : SX1) : gX5_page (sX5_page S v) = v := rfl
theorem eX5_now_page (S : SX5) (v : SX1) : gX5_now (sX5_page S v) = gX5_now S := rfl
theorem eX5_kept_page (S : SX5) (v : SX1) : gX5_kept (sX5_page S v) = gX5_kept S := rfl
theorem eX5_trial_page (S : SX5) (v : SX1) : gX5_trial (sX5_page S v) = gX5_trial S := rfl
theorem eX5_open_page (S : SX5) (v : SX1) : gX5_open (sX5_page S v) = gX5_open S := rfl
theorem eX5_imaged_page (S : SX5) (v : SX1) : gX5_imaged (sX5_page S v) = gX5_imaged S := rfl
theorem eX5_timesRead_page (S : SX5) (v : SX1) : gX5_timesRead (sX5_page S v) = gX5_timesRead S := rfl
theorem eX5_page_now (S : SX5) (v : SX3) : gX5_page (sX5_now S v) = gX5_page S := rfl
theorem eX5_now_now (S : SX5) (v : SX3) : gX5_now (sX5_now S v) = v := rfl
theorem eX5_kept_now (S : SX5) (v : SX3) : gX5_kept (sX5_now S v) = gX5_kept S := rfl
theorem eX5_trial_now (S : SX5) (v : SX3) : gX5_trial (sX5_now S v) = gX5_trial S := rfl
theorem eX5_open_now (S : SX5) (v : SX3) : gX5_open (sX5_now S v) = gX5_open S := rfl
theorem eX5_imaged_now (S : SX5) (v : SX3) : gX5_imaged (sX5_now S v) = gX5_imaged S := rfl
theorem eX5_timesRead_now (S : SX5) (v : SX3) : gX5_timesRead (sX5_now S v) = gX5_timesRead S := rfl
theorem eX5_page_kept (S : SX5) (v : SX3) : gX5_page (sX5_kept S v) = gX5_page S := rfl
theorem eX5_now_kept (S : SX5) (v : SX3) : gX5_now (sX5_kept S v) = gX5_now S := rfl
theorem eX5_kept_kept (S : SX5) (v : SX3) : gX5_kept (sX5_kept S v) = v := rfl
theorem eX5_trial_kept (S : SX5) (v : SX3) : gX5_trial (sX5_kept S v) = gX5_trial S := rfl
theorem eX5_open_kept (S : SX5) (v : SX3) : gX5_open (sX5_kept S v) = gX5_open S := rfl
theorem eX5_imaged_kept (S : SX5) (v : SX3) : gX5_imaged (sX5_kept S v) = gX5_imaged S := rfl
theorem eX5_timesRead_kept (S : SX5) (v : SX3) : gX5_timesRead (sX5_kept S v) = gX5_timesRead S := rfl
theorem eX5_page_trial (S : SX5) (v : SX4) : gX5_page (sX5_trial S v) = gX5_page S := rfl
theorem eX5_now_trial (S : SX5) (v : SX4) : gX5_now (sX5_trial S v) = gX5_now S := rfl
theorem eX5_kept_trial (S : SX5) (v : SX4) : gX5_kept (sX5_trial S v) = gX5_kept S := rfl
theorem eX5_trial_trial (S : SX5) (v : SX4) : gX5_trial (sX5_trial S v) = v := rfl
theorem eX5_open_trial (S : SX5) (v : SX4) : gX5_open (sX5_trial S v) = gX5_open S := rfl
theorem eX5_imaged_trial (S : SX5) (v : SX4) : gX5_imaged (sX5_trial S v) = gX5_imaged S := rfl
theorem eX5_timesRead_trial (S : SX5) (v : SX4) : gX5_timesRead (sX5_trial S v) = gX5_timesRead S := rfl
theorem eX5_page_open (S : SX5) (v : Int32) : gX5_page (sX5_open S v) = gX5_page S := rfl
theorem eX5_now_open (S : SX5) (v : Int32) : gX5_now (sX5_open S v) = gX5_now S := rfl
theorem eX5_kept_open (S : SX5) (v : Int32) : gX5_kept (sX5_open S v) = gX5_kept S := rfl
theorem eX5_trial_open (S : SX5) (v : Int32) : gX5_trial (sX5_open S v) = gX5_trial S := rfl
theorem eX5_open_open (S : SX5) (v : Int32) : gX5_open (sX5_open S v) = v := rfl
theorem eX5_imaged_open (S : SX5) (v : Int32) : gX5_imaged (sX5_open S v) = gX5_imaged S := rfl
theorem eX5_timesRead_open (S : SX5) (v : Int32) : gX5_timesRead (sX5_open S v) = gX5_timesRead S := rfl
theorem eX5_page_imaged (S : SX5) (v : Int32) : gX5_page (sX5_imaged S v) = gX5_page S := rfl
theorem eX5_now_imaged (S : SX5) (v : Int32) : gX5_now (sX5_imaged S v) = gX5_now S := rfl
theorem eX5_kept_imaged (S : SX5) (v : Int32) : gX5_kept (sX5_imaged S v) = gX5_kept S := rfl
theorem eX5_trial_imaged (S : SX5) (v : Int32) : gX5_trial (sX5_imaged S v) = gX5_trial S := rfl
theorem eX5_open_imaged (S : SX5) (v : Int32) : gX5_open (sX5_imaged S v) = gX5_open S := rfl
theorem eX5_imaged_imaged (S : SX5) (v : Int32) : gX5_imaged (sX5_imaged S v) = v := rfl
theorem eX5_timesRead_imaged (S : SX5) (v : Int32) : gX5_timesRead (sX5_imaged S v) = gX5_timesRead S := rfl
theorem eX5_page_timesRead (S : SX5) (v : Int32) : gX5_page (sX5_timesRead S v) = gX5_page S := rfl
theorem eX5_now_timesRead (S : SX5) (v : Int32) : gX5_now (sX5_timesRead S v) = gX5_now S := rfl
theorem eX5_kept_timesRead (S : SX5) (v : Int32) : gX5_kept (sX5_timesRead S v) = gX5_kept S := rfl
theorem eX5_trial_timesRead (S : SX5) (v : Int32) : gX5_trial (sX5_timesRead S v) = gX5_trial S := rfl
theorem eX5_open_timesRead (S : SX5) (v : Int32) : gX5_open (sX5_timesRead S v) = gX5_open S := rfl
theorem eX5_imaged_timesRead (S : SX5) (v : Int32) : gX5_imaged (sX5_timesRead S v) = gX5_imaged S := rfl
theorem eX5_timesRead_timesRead (S : SX5) (v : Int32) : gX5_timesRead (sX5_timesRead S v) = v := rfl
theorem eX6_page_page (S : SX6) (v : (Nat → Int32)) : gX6_page (sX6_page S v) = v := rfl
theorem eX6_pageMany_page (S : SX6) (v : (Nat → Int32)) : gX6_pageMany (sX6_page S v) = gX6_pageMany S := rfl
theorem eX6_left_page (S : SX6) (v : (Nat → Int32)) : gX6_left (sX6_page S v) = gX6_left S := rfl
theorem eX6_right_page (S : SX6) (v : (Nat → Int32)) : gX6_right (sX6_page S v) = gX6_right S := rfl
theorem eX6_above_page (S : SX6) (v : (Nat → Int32)) : gX6_above (sX6_page S v) = gX6_above S := rfl
theorem eX6_there_page (S : SX6) (v : (Nat → Int32)) : gX6_there (sX6_page S v) = gX6_there S := rfl
theorem eX6_root_page (S : SX6) (v : (Nat → Int32)) : gX6_root (sX6_page S v) = gX6_root S := rfl
theorem eX6_many_page (S : SX6) (v : (Nat → Int32)) : gX6_many (sX6_page S v) = gX6_many S := rfl
theorem eX6_most_page (S : SX6) (v : (Nat → Int32)) : gX6_most (sX6_page S v) = gX6_most S := rfl
theorem eX6_builtNow_page (S : SX6) (v : (Nat → Int32)) : gX6_builtNow (sX6_page S v) = gX6_builtNow S := rfl
theorem eX6_built_page (S : SX6) (v : (Nat → Int32)) : gX6_built (sX6_page S v) = gX6_built S := rfl
theorem eX6_cost_page (S : SX6) (v : (Nat → Int32)) : gX6_cost (sX6_page S v) = gX6_cost S := rfl
theorem eX6_kinds_page (S : SX6) (v : (Nat → Int32)) : gX6_kinds (sX6_page S v) = gX6_kinds S := rfl
theorem eX6_values_page (S : SX6) (v : (Nat → Int32)) : gX6_values (sX6_page S v) = gX6_values S := rfl
theorem eX6_ratioA_page (S : SX6) (v : (Nat → Int32)) : gX6_ratioA (sX6_page S v) = gX6_ratioA S := rfl
theorem eX6_ratioB_page (S : SX6) (v : (Nat → Int32)) : gX6_ratioB (sX6_page S v) = gX6_ratioB S := rfl
theorem eX6_thenA_page (S : SX6) (v : (Nat → Int32)) : gX6_thenA (sX6_page S v) = gX6_thenA S := rfl
theorem eX6_thenB_page (S : SX6) (v : (Nat → Int32)) : gX6_thenB (sX6_page S v) = gX6_thenB S := rfl
theorem eX6_fee_page (S : SX6) (v : (Nat → Int32)) : gX6_fee (sX6_page S v) = gX6_fee S := rfl
theorem eX6_credit_page (S : SX6) (v : (Nat → Int32)) : gX6_credit (sX6_page S v) = gX6_credit S := rfl
theorem eX6_lowest_page (S : SX6) (v : (Nat → Int32)) : gX6_lowest (sX6_page S v) = gX6_lowest S := rfl
theorem eX6_log_page (S : SX6) (v : (Nat → Int32)) : gX6_log (sX6_page S v) = gX6_log S := rfl
theorem eX6_logMany_page (S : SX6) (v : (Nat → Int32)) : gX6_logMany (sX6_page S v) = gX6_logMany S := rfl
theorem eX6_shelvesRead_page (S : SX6) (v : (Nat → Int32)) : gX6_shelvesRead (sX6_page S v) = gX6_shelvesRead S := rfl
theorem eX6_row_page (S : SX6) (v : (Nat → Int32)) : gX6_row (sX6_page S v) = gX6_row S := rfl
theorem eX6_spanLow_page (S : SX6) (v : (Nat → Int32)) : gX6_spanLow (sX6_page S v) = gX6_spanLow S := rfl
theorem eX6_spanHigh_page (S : SX6) (v : (Nat → Int32)) : gX6_spanHigh (sX6_page S v) = gX6_spanHigh S := rfl
theorem eX6_spanOn_page (S : SX6) (v : (Nat → Int32)) : gX6_spanOn (sX6_page S v) = gX6_spanOn S := rfl
theorem eX6_seenMany_page (S : SX6) (v : (Nat → Int32)) : gX6_seenMany (sX6_page S v) = gX6_seenMany S := rfl
theorem eX6_sights_page (S : SX6) (v : (Nat → Int32)) : gX6_sights (sX6_page S v) = gX6_sights S := rfl
theorem eX6_seedNow_page (S : SX6) (v : (Nat → Int32)) : gX6_seedNow (sX6_page S v) = gX6_seedNow S := rfl
theorem eX6_hash_page (S : SX6) (v : (Nat → Int32)) : gX6_hash (sX6_page S v) = gX6_hash S := rfl
theorem eX6_page_pageMany (S : SX6) (v : Int32) : gX6_page (sX6_pageMany S v) = gX6_page S := rfl
theorem eX6_pageMany_pageMany (S : SX6) (v : Int32) : gX6_pageMany (sX6_pageMany S v) = v := rfl
theorem eX6_left_pageMany (S : SX6) (v : Int32) : gX6_left (sX6_pageMany S v) = gX6_left S := rfl
theorem eX6_right_pageMany (S : SX6) (v : Int32) : gX6_right (sX6_pageMany S v) = gX6_right S := rfl
theorem eX6_above_pageMany (S : SX6) (v : Int32) : gX6_above (sX6_pageMany S v) = gX6_above S := rfl
theorem eX6_there_pageMany (S : SX6) (v : Int32) : gX6_there (sX6_pageMany S v) = gX6_there S := rfl
theorem eX6_root_pageMany (S : SX6) (v : Int32) : gX6_root (sX6_pageMany S v) = gX6_root S := rfl
theorem eX6_many_pageMany (S : SX6) (v : Int32) : gX6_many (sX6_pageMany S v) = gX6_many S := rfl
theorem eX6_most_pageMany (S : SX6) (v : Int32) : gX6_most (sX6_pageMany S v) = gX6_most S := rfl
theorem eX6_builtNow_pageMany (S : SX6) (v : Int32) : gX6_builtNow (sX6_pageMany S v) = gX6_builtNow S := rfl
theorem eX6_built_pageMany (S : SX6) (v : Int32) : gX6_built (sX6_pageMany S v) = gX6_built S := rfl
theorem eX6_cost_pageMany (S : SX6) (v : Int32) : gX6_cost (sX6_pageMany S v) = gX6_cost S := rfl
theorem eX6_kinds_pageMany (S : SX6) (v : Int32) : gX6_kinds (sX6_pageMany S v) = gX6_kinds S := rfl
theorem eX6_values_pageMany (S : SX6) (v : Int32) : gX6_values (sX6_pageMany S v) = gX6_values S := rfl
theorem eX6_ratioA_pageMany (S : SX6) (v : Int32) : gX6_ratioA (sX6_pageMany S v) = gX6_ratioA S := rfl
theorem eX6_ratioB_pageMany (S : SX6) (v : Int32) : gX6_ratioB (sX6_pageMany S v) = gX6_ratioB S := rfl
theorem eX6_thenA_pageMany (S : SX6) (v : Int32) : gX6_thenA (sX6_pageMany S v) = gX6_thenA S := rfl
theorem eX6_thenB_pageMany (S : SX6) (v : Int32) : gX6_thenB (sX6_pageMany S v) = gX6_thenB S := rfl
theorem eX6_fee_pageMany (S : SX6) (v : Int32) : gX6_fee (sX6_pageMany S v) = gX6_fee S := rfl
theorem eX6_credit_pageMany (S : SX6) (v : Int32) : gX6_credit (sX6_pageMany S v) = gX6_credit S := rfl
theorem eX6_lowest_pageMany (S : SX6) (v : Int32) : gX6_lowest (sX6_pageMany S v) = gX6_lowest S := rfl
theorem eX6_log_pageMany (S : SX6) (v : Int32) : gX6_log (sX6_pageMany S v) = gX6_log S := rfl
theorem eX6_logMany_pageMany (S : SX6) (v : Int32) : gX6_logMany (sX6_pageMany S v) = gX6_logMany S := rfl
theorem eX6_shelvesRead_pageMany (S : SX6) (v : Int32) : gX6_shelvesRead (sX6_pageMany S v) = gX6_shelvesRead S := rfl
theorem eX6_row_pageMany (S : SX6) (v : Int32) : gX6_row (sX6_pageMany S v) = gX6_row S := rfl
theorem eX6_spanLow_pageMany (S : SX6) (v : Int32) : gX6_spanLow (sX6_pageMany S v) = gX6_spanLow S := rfl
theorem eX6_spanHigh_pageMany (S : SX6) (v : Int32) : gX6_spanHigh (sX6_pageMany S v) = gX6_spanHigh S := rfl
theorem eX6_spanOn_pageMany (S : SX6) (v : Int32) : gX6_spanOn (sX6_pageMany S v) = gX6_spanOn S := rfl
theorem eX6_seenMany_pageMany (S : SX6) (v : Int32) : gX6_seenMany (sX6_pageMany S v) = gX6_seenMany S := rfl
theorem eX6_sights_pageMany (S : SX6) (v : Int32) : gX6_sights (sX6_pageMany S v) = gX6_sights S := rfl
theorem eX6_seedNow_pageMany (S : SX6) (v : Int32) : gX6_seedNow (sX6_pageMany S v) = gX6_seedNow S := rfl
theorem eX6_hash_pageMany (S : SX6) (v : Int32) : gX6_hash (sX6_pageMany S v) = gX6_hash S := rfl
theorem eX6_page_left (S : SX6) (v : (Nat → Int32)) : gX6_page (sX6_left S v) = gX6_page S := rfl
theorem eX6_pageMany_left (S : SX6) (v : (Nat → Int32)) : gX6_pageMany (sX6_left S v) = gX6_pageMany S := rfl
theorem eX6_left_left (S : SX6) (v : (Nat → Int32)) : gX6_left (sX6_left S v) = v := rfl
theorem eX6_right_left (S : SX6) (v : (Nat → Int32)) : gX6_right (sX6_left S v) = gX6_right S := rfl
theorem eX6_above_left (S : SX6) (v : (Nat → Int32)) : gX6_above (sX6_left S v) = gX6_above S := rfl
theorem eX6_there_left (S : SX6) (v : (Nat → Int32)) : gX6_there (sX6_left S v) = gX6_there S := rfl
theorem eX6_root_left (S : SX6) (v : (Nat → Int32)) : gX6_root (sX6_left S v) = gX6_root S := rfl
theorem eX6_many_left (S : SX6) (v : (Nat → Int32)) : gX6_many (sX6_left S v) = gX6_many S := rfl
theorem eX6_most_left (S : SX6) (v : (Nat → Int32)) : gX6_most (sX6_left S v) = gX6_most S := rfl
theorem eX6_builtNow_left (S : SX6) (v : (Nat → Int32)) : gX6_builtNow (sX6_left S v) = gX6_builtNow S := rfl
theorem eX6_built_left (S : SX6) (v : (Nat → Int32)) : gX6_built (sX6_left S v) = gX6_built S := rfl
theorem eX6_cost_left (S : SX6) (v : (Nat → Int32)) : gX6_cost (sX6_left S v) = gX6_cost S := rfl
theorem eX6_kinds_left (S : SX6) (v : (Nat → Int32)) : gX6_kinds (sX6_left S v) = gX6_kinds S := rfl
theorem eX6_values_left (S : SX6) (v : (Nat → Int32)) : gX6_values (sX6_left S v) = gX6_values S := rfl
theorem eX6_ratioA_left (S : SX6) (v : (Nat → Int32)) : gX6_ratioA (sX6_left S v) = gX6_ratioA S := rfl
theorem eX6_ratioB_left (S : SX6) (v : (Nat → Int32)) : gX6_ratioB (sX6_left S v) = gX6_ratioB S := rfl
theorem eX6_thenA_left (S : SX6) (v : (Nat → Int32)) : gX6_thenA (sX6_left S v) = gX6_thenA S := rfl
theorem eX6_thenB_left (S : SX6) (v : (Nat → Int32)) : gX6_thenB (sX6_left S v) = gX6_thenB S := rfl
theorem eX6_fee_left (S : SX6) (v : (Nat → Int32)) : gX6_fee (sX6_left S v) = gX6_fee S := rfl
theorem eX6_credit_left (S : SX6) (v : (Nat → Int32)) : gX6_credit (sX6_left S v) = gX6_credit S := rfl
theorem eX6_lowest_left (S : SX6) (v : (Nat → Int32)) : gX6_lowest (sX6_left S v) = gX6_lowest S := rfl
theorem eX6_log_left (S : SX6) (v : (Nat → Int32)) : gX6_log (sX6_left S v) = gX6_log S := rfl
theorem eX6_logMany_left (S : SX6) (v : (Nat → Int32)) : gX6_logMany (sX6_left S v) = gX6_logMany S := rfl
theorem eX6_shelvesRead_left (S : SX6) (v : (Nat → Int32)) : gX6_shelvesRead (sX6_left S v) = gX6_shelvesRead S := rfl
theorem eX6_row_left (S : SX6) (v : (Nat → Int32)) : gX6_row (sX6_left S v) = gX6_row S := rfl
theorem eX6_spanLow_left (S : SX6) (v : (Nat → Int32)) : gX6_spanLow (sX6_left S v) = gX6_spanLow S := rfl
theorem eX6_spanHigh_left (S : SX6) (v : (Nat → Int32)) : gX6_spanHigh (sX6_left S v) = gX6_spanHigh S := rfl
theorem eX6_spanOn_left (S : SX6) (v : (Nat → Int32)) : gX6_spanOn (sX6_left S v) = gX6_spanOn S := rfl
theorem eX6_seenMany_left (S : SX6) (v : (Nat → Int32)) : gX6_seenMany (sX6_left S v) = gX6_seenMany S := rfl
theorem eX6_sights_left (S : SX6) (v : (Nat → Int32)) : gX6_sights (sX6_left S v) = gX6_sights S := rfl
theorem eX6_seedNow_left (S : SX6) (v : (Nat → Int32)) : gX6_seedNow (sX6_left S v) = gX6_seedNow S := rfl
theorem eX6_hash_left (S : SX6) (v : (Nat → Int32)) : gX6_hash (sX6_left S v) = gX6_hash S := rfl
theorem eX6_page_right (S : SX6) (v : (Nat → Int32)) : gX6_page (sX6_right S v) = gX6_page S := rfl
theorem eX6_pageMany_right (S : SX6) (v : (Nat → Int32)) : gX6_pageMany (sX6_right S v) = gX6_pageMany S := rfl
theorem eX6_left_right (S : SX6) (v : (Nat → Int32)) : gX6_left (sX6_right S v) = gX6_left S := rfl
theorem eX6_right_right (S : SX6) (v : (Nat → Int32)) : gX6_right (sX6_right S v) = v := rfl
theorem eX6_above_right (S : SX6) (v : (Nat → Int32)) : gX6_above (sX6_right S v) = gX6_above S := rfl
theorem eX6_there_right (S : SX6) (v : (Nat → Int32)) : gX6_there (sX6_right S v) = gX6_there S := rfl
theorem eX6_root_right (S : SX6) (v : (Nat → Int32)) : gX6_root (sX6_right S v) = gX6_root S := rfl
theorem eX6_many_right (S : SX6) (v : (Nat → Int32)) : gX6_many (sX6_right S v) = gX6_many S := rfl
theorem eX6_most_right (S : SX6) (v : (Nat → Int32)) : gX6_most (sX6_right S v) = gX6_most S := rfl
theorem eX6_builtNow_right (S : SX6) (v : (Nat → Int32)) : gX6_builtNow (sX6_right S v) = gX6_builtNow S := rfl
theorem eX6_built_right (S : SX6) (v : (Nat → Int32)) : gX6_built (sX6_right S v) = gX6_built S := rfl
theorem eX6_cost_right (S : SX6) (v : (Nat → Int32)) : gX6_cost (sX6_right S v) = gX6_cost S := rfl
theorem eX6_kinds_right (S : SX6) (v : (Nat → Int32)) : gX6_kinds (sX6_right S v) = gX6_kinds S := rfl
theorem eX6_values_right (S : SX6) (v : (Nat → Int32)) : gX6_values (sX6_right S v) = gX6_values S := rfl
theorem eX6_ratioA_right (S : SX6) (v : (Nat → Int32)) : gX6_ratioA (sX6_right S v) = gX6_ratioA S := rfl
theorem eX6_ratioB_right (S : SX6) (v : (Nat → Int32)) : gX6_ratioB (sX6_right S v) = gX6_ratioB S := rfl
theorem eX6_thenA_right (S : SX6) (v : (Nat → Int32)) : gX6_thenA (sX6_right S v) = gX6_thenA S := rfl
theorem eX6_thenB_right (S : SX6) (v : (Nat → Int32)) : gX6_thenB (sX6_right S v) = gX6_thenB S := rfl
theorem eX6_fee_right (S : SX6) (v : (Nat → Int32)) : gX6_fee (sX6_right S v) = gX6_fee S := rfl
theorem eX6_credit_right (S : SX6) (v : (Nat → Int32)) : gX6_credit (sX6_right S v) = gX6_credit S := rfl
theorem eX6_lowest_right (S : SX6) (v : (Nat → Int32)) : gX6_lowest (sX6_right S v) = gX6_lowest S := rfl
theorem eX6_log_right (S : SX6) (v : (Nat → Int32)) : gX6_log (sX6_right S v) = gX6_log S := rfl
theorem eX6_logMany_right (S : SX6) (v : (Nat → Int32)) : gX6_logMany (sX6_right S v) = gX6_logMany S := rfl
theorem eX6_shelvesRead_right (S : SX6) (v : (Nat → Int32)) : gX6_shelvesRead (sX6_right S v) = gX6_shelvesRead S := rfl
theorem eX6_row_right (S : SX6) (v : (Nat → Int32)) : gX6_row (sX6_right S v) = gX6_row S := rfl
theorem eX6_spanLow_right (S : SX6) (v : (Nat → Int32)) : gX6_spanLow (sX6_right S v) = gX6_spanLow S := rfl
theorem eX6_spanHigh_right (S : SX6) (v : (Nat → Int32)) : gX6_spanHigh (sX6_right S v) = gX6_spanHigh S := rfl
theorem eX6_spanOn_right (S : SX6) (v : (Nat → Int32)) : gX6_spanOn (sX6_right S v) = gX6_spanOn S := rfl
theorem eX6_seenMany_right (S : SX6) (v : (Nat → Int32)) : gX6_seenMany (sX6_right S v) = gX6_seenMany S := rfl
theorem eX6_sights_right (S : SX6) (v : (Nat → Int32)) : gX6_sights (sX6_right S v) = gX6_sights S := rfl
theorem eX6_seedNow_right (S : SX6) (v : (Nat → Int32)) : gX6_seedNow (sX6_right S v) = gX6_seedNow S := rfl
theorem eX6_hash_right (S : SX6) (v : (Nat → Int32)) : gX6_hash (sX6_right S v) = gX6_hash S := rfl
theorem eX6_page_above (S : SX6) (v : (Nat → Int32)) : gX6_page (sX6_above S v) = gX6_page S := rfl
theorem eX6_pageMany_above (S : SX6) (v : (Nat → Int32)) : gX6_pageMany (sX6_above S v) = gX6_pageMany S := rfl
theorem eX6_left_above (S : SX6) (v : (Nat → Int32)) : gX6_left (sX6_above S v) = gX6_left S := rfl
theorem eX6_right_above (S : SX6) (v : (Nat → Int32)) : gX6_right (sX6_above S v) = gX6_right S := rfl
theorem eX6_above_above (S : SX6) (v : (Nat → Int32)) : gX6_above (sX6_above S v) = v := rfl
theorem eX6_there_above (S : SX6) (v : (Nat → Int32)) : gX6_there (sX6_above S v) = gX6_there S := rfl
theorem eX6_root_above (S : SX6) (v : (Nat → Int32)) : gX6_root (sX6_above S v) = gX6_root S := rfl
theorem eX6_many_above (S : SX6) (v : (Nat → Int32)) : gX6_many (sX6_above S v) = gX6_many S := rfl
theorem eX6_most_above (S : SX6) (v : (Nat → Int32)) : gX6_most (sX6_above S v) = gX6_most S := rfl
theorem eX6_builtNow_above (S : SX6) (v : (Nat → Int32)) : gX6_builtNow (sX6_above S v) = gX6_builtNow S := rfl
theorem eX6_built_above (S : SX6) (v : (Nat → Int32)) : gX6_built (sX6_above S v) = gX6_built S := rfl
theorem eX6_cost_above (S : SX6) (v : (Nat → Int32)) : gX6_cost (sX6_above S v) = gX6_cost S := rfl
theorem eX6_kinds_above (S : SX6) (v : (Nat → Int32)) : gX6_kinds (sX6_above S v) = gX6_kinds S := rfl
theorem eX6_values_above (S : SX6) (v : (Nat → Int32)) : gX6_values (sX6_above S v) = gX6_values S := rfl
theorem eX6_ratioA_above (S : SX6) (v : (Nat → Int32)) : gX6_ratioA (sX6_above S v) = gX6_ratioA S := rfl
theorem eX6_ratioB_above (S : SX6) (v : (Nat → Int32)) : gX6_ratioB (sX6_above S v) = gX6_ratioB S := rfl
theorem eX6_thenA_above (S : SX6) (v : (Nat → Int32)) : gX6_thenA (sX6_above S v) = gX6_thenA S := rfl
theorem eX6_thenB_above (S : SX6) (v : (Nat → Int32)) : gX6_thenB (sX6_above S v) = gX6_thenB S := rfl
theorem eX6_fee_above (S : SX6) (v : (Nat → Int32)) : gX6_fee (sX6_above S v) = gX6_fee S := rfl
theorem eX6_credit_above (S : SX6) (v : (Nat → Int32)) : gX6_credit (sX6_above S v) = gX6_credit S := rfl
theorem eX6_lowest_above (S : SX6) (v : (Nat → Int32)) : gX6_lowest (sX6_above S v) = gX6_lowest S := rfl
theorem eX6_log_above (S : SX6) (v : (Nat → Int32)) : gX6_log (sX6_above S v) = gX6_log S := rfl
theorem eX6_logMany_above (S : SX6) (v : (Nat → Int32)) : gX6_logMany (sX6_above S v) = gX6_logMany S := rfl
theorem eX6_shelvesRead_above (S : SX6) (v : (Nat → Int32)) : gX6_shelvesRead (sX6_above S v) = gX6_shelvesRead S := rfl
theorem eX6_row_above (S : SX6) (v : (Nat → Int32)) : gX6_row (sX6_above S v) = gX6_row S := rfl
theorem eX6_spanLow_above (S : SX6) (v : (Nat → Int32)) : gX6_spanLow (sX6_above S v) = gX6_spanLow S := rfl
theorem eX6_spanHigh_above (S : SX6) (v : (Nat → Int32)) : gX6_spanHigh (sX6_above S v) = gX6_spanHigh S := rfl
theorem eX6_spanOn_above (S : SX6) (v : (Nat → Int32)) : gX6_spanOn (sX6_above S v) = gX6_spanOn S := rfl
theorem eX6_seenMany_above (S : SX6) (v : (Nat → Int32)) : gX6_seenMany (sX6_above S v) = gX6_seenMany S := rfl
theorem eX6_sights_above (S : SX6) (v : (Nat → Int32)) : gX6_sights (sX6_above S v) = gX6_sights S := rfl
theorem eX6_seedNow_above (S : SX6) (v : (Nat → Int32)) : gX6_seedNow (sX6_above S v) = gX6_seedNow S := rfl
theorem eX6_hash_above (S : SX6) (v : (Nat → Int32)) : gX6_hash (sX6_above S v) = gX6_hash S := rfl
theorem eX6_page_there (S : SX6) (v : (Nat → Int32)) : gX6_page (sX6_there S v) = gX6_page S := rfl
theorem eX6_pageMany_there (S : SX6) (v : (Nat → Int32)) : gX6_pageMany (sX6_there S v) = gX6_pageMany S := rfl
theorem eX6_left_there (S : SX6) (v : (Nat → Int32)) : gX6_left (sX6_there S v) = gX6_left S := rfl
theorem eX6_right_there (S : SX6) (v : (Nat → Int32)) : gX6_right (sX6_there S v) = gX6_right S := rfl
theorem eX6_above_there (S : SX6) (v : (Nat → Int32)) : gX6_above (sX6_there S v) = gX6_above S := rfl
theorem eX6_there_there (S : SX6) (v : (Nat → Int32)) : gX6_there (sX6_there S v) = v := rfl
theorem eX6_root_there (S : SX6) (v : (Nat → Int32)) : gX6_root (sX6_there S v) = gX6_root S := rfl
theorem eX6_many_there (S : SX6) (v : (Nat → Int32)) : gX6_many (sX6_there S v) = gX6_many S := rfl
theorem eX6_most_there (S : SX6) (v : (Nat → Int32)) : gX6_most (sX6_there S v) = gX6_most S := rfl
theorem eX6_builtNow_there (S : SX6) (v : (Nat → Int32)) : gX6_builtNow (sX6_there S v) = gX6_builtNow S := rfl
theorem eX6_built_there (S : SX6) (v : (Nat → Int32)) : gX6_built (sX6_there S v) = gX6_built S := rfl
theorem eX6_cost_there (S : SX6) (v : (Nat → Int32)) : gX6_cost (sX6_there S v) = gX6_cost S := rfl
theorem eX6_kinds_there (S : SX6) (v : (Nat → Int32)) : gX6_kinds (sX6_there S v) = gX6_kinds S := rfl
theorem eX6_values_there (S : SX6) (v : (Nat → Int32)) : gX6_values (sX6_there S v) = gX6_values S := rfl
theorem eX6_ratioA_there (S : SX6) (v : (Nat → Int32)) : gX6_ratioA (sX6_there S v) = gX6_ratioA S := rfl
theorem eX6_ratioB_there (S : SX6) (v : (Nat → Int32)) : gX6_ratioB (sX6_there S v) = gX6_ratioB S := rfl
theorem eX6_thenA_there (S : SX6) (v : (Nat → Int32)) : gX6_thenA (sX6_there S v) = gX6_thenA S := rfl
theorem eX6_thenB_there (S : SX6) (v : (Nat → Int32)) : gX6_thenB (sX6_there S v) = gX6_thenB S := rfl
theorem eX6_fee_there (S : SX6) (v : (Nat → Int32)) : gX6_fee (sX6_there S v) = gX6_fee S := rfl
theorem eX6_credit_there (S : SX6) (v : (Nat → Int32)) : gX6_credit (sX6_there S v) = gX6_credit S := rfl
theorem eX6_lowest_there (S : SX6) (v : (Nat → Int32)) : gX6_lowest (sX6_there S v) = gX6_lowest S := rfl
theorem eX6_log_there (S : SX6) (v : (Nat → Int32)) : gX6_log (sX6_there S v) = gX6_log S := rfl
theorem eX6_logMany_there (S : SX6) (v : (Nat → Int32)) : gX6_logMany (sX6_there S v) = gX6_logMany S := rfl
theorem eX6_shelvesRead_there (S : SX6) (v : (Nat → Int32)) : gX6_shelvesRead (sX6_there S v) = gX6_shelvesRead S := rfl
theorem eX6_row_there (S : SX6) (v : (Nat → Int32)) : gX6_row (sX6_there S v) = gX6_row S := rfl
theorem eX6_spanLow_there (S : SX6) (v : (Nat → Int32)) : gX6_spanLow (sX6_there S v) = gX6_spanLow S := rfl
theorem eX6_spanHigh_there (S : SX6) (v : (Nat → Int32)) : gX6_spanHigh (sX6_there S v) = gX6_spanHigh S := rfl
theorem eX6_spanOn_there (S : SX6) (v : (Nat → Int32)) : gX6_spanOn (sX6_there S v) = gX6_spanOn S := rfl
theorem eX6_seenMany_there (S : SX6) (v : (Nat → Int32)) : gX6_seenMany (sX6_there S v) = gX6_seenMany S := rfl
theorem eX6_sights_there (S : SX6) (v : (Nat → Int32)) : gX6_sights (sX6_there S v) = gX6_sights S := rfl
theorem eX6_seedNow_there (S : SX6) (v : (Nat → Int32)) : gX6_seedNow (sX6_there S v) = gX6_seedNow S := rfl
theorem eX6_hash_there (S : SX6) (v : (Nat → Int32)) : gX6_hash (sX6_there S v) = gX6_hash S := rfl
theorem eX6_page_root (S : SX6) (v : (Nat → Int32)) : gX6_page (sX6_root S v) = gX6_page S := rfl
theorem eX6_pageMany_root (S : SX6) (v : (Nat → Int32)) : gX6_pageMany (sX6_root S v) = gX6_pageMany S := rfl
theorem eX6_left_root (S : SX6) (v : (Nat → Int32)) : gX6_left (sX6_root S v) = gX6_left S := rfl
theorem eX6_right_root (S : SX6) (v : (Nat → Int32)) : gX6_right (sX6_root S v) = gX6_right S := rfl
theorem eX6_above_root (S : SX6) (v : (Nat → Int32)) : gX6_above (sX6_root S v) = gX6_above S := rfl
theorem eX6_there_root (S : SX6) (v : (Nat → Int32)) : gX6_there (sX6_root S v) = gX6_there S := rfl
theorem eX6_root_root (S : SX6) (v : (Nat → Int32)) : gX6_root (sX6_root S v) = v := rfl
theorem eX6_many_root (S : SX6) (v : (Nat → Int32)) : gX6_many (sX6_root S v) = gX6_many S := rfl
theorem eX6_most_root (S : SX6) (v : (Nat → Int32)) : gX6_most (sX6_root S v) = gX6_most S := rfl
theorem eX6_builtNow_root (S : SX6) (v : (Nat → Int32)) : gX6_builtNow (sX6_root S v) = gX6_builtNow S := rfl
theorem eX6_built_root (S : SX6) (v : (Nat → Int32)) : gX6_built (sX6_root S v) = gX6_built S := rfl
theorem eX6_cost_root (S : SX6) (v : (Nat → Int32)) : gX6_cost (sX6_root S v) = gX6_cost S := rfl
theorem eX6_kinds_root (S : SX6) (v : (Nat → Int32)) : gX6_kinds (sX6_root S v) = gX6_kinds S := rfl
theorem eX6_values_root (S : SX6) (v : (Nat → Int32)) : gX6_values (sX6_root S v) = gX6_values S := rfl
theorem eX6_ratioA_root (S : SX6) (v : (Nat → Int32)) : gX6_ratioA (sX6_root S v) = gX6_ratioA S := rfl
theorem eX6_ratioB_root (S : SX6) (v : (Nat → Int32)) : gX6_ratioB (sX6_root S v) = gX6_ratioB S := rfl
theorem eX6_thenA_root (S : SX6) (v : (Nat → Int32)) : gX6_thenA (sX6_root S v) = gX6_thenA S := rfl
theorem eX6_thenB_root (S : SX6) (v : (Nat → Int32)) : gX6_thenB (sX6_root S v) = gX6_thenB S := rfl
theorem eX6_fee_root (S : SX6) (v : (Nat → Int32)) : gX6_fee (sX6_root S v) = gX6_fee S := rfl
theorem eX6_credit_root (S : SX6) (v : (Nat → Int32)) : gX6_credit (sX6_root S v) = gX6_credit S := rfl
theorem eX6_lowest_root (S : SX6) (v : (Nat → Int32)) : gX6_lowest (sX6_root S v) = gX6_lowest S := rfl
theorem eX6_log_root (S : SX6) (v : (Nat → Int32)) : gX6_log (sX6_root S v) = gX6_log S := rfl
theorem eX6_logMany_root (S : SX6) (v : (Nat → Int32)) : gX6_logMany (sX6_root S v) = gX6_logMany S := rfl
theorem eX6_shelvesRead_root (S : SX6) (v : (Nat → Int32)) : gX6_shelvesRead (sX6_root S v) = gX6_shelvesRead S := rfl
theorem eX6_row_root (S : SX6) (v : (Nat → Int32)) : gX6_row (sX6_root S v) = gX6_row S := rfl
theorem eX6_spanLow_root (S : SX6) (v : (Nat → Int32)) : gX6_spanLow (sX6_root S v) = gX6_spanLow S := rfl
theorem eX6_spanHigh_root (S : SX6) (v : (Nat → Int32)) : gX6_spanHigh (sX6_root S v) = gX6_spanHigh S := rfl
theorem eX6_spanOn_root (S : SX6) (v : (Nat → Int32)) : gX6_spanOn (sX6_root S v) = gX6_spanOn S := rfl
theorem eX6_seenMany_root (S : SX6) (v : (Nat → Int32)) : gX6_seenMany (sX6_root S v) = gX6_seenMany S := rfl
theorem eX6_sights_root (S : SX6) (v : (Nat → Int32)) : gX6_sights (sX6_root S v) = gX6_sights S := rfl
theorem eX6_seedNow_root (S : SX6) (v : (Nat → Int32)) : gX6_seedNow (sX6_root S v) = gX6_seedNow S := rfl
theorem eX6_hash_root (S : SX6) (v : (Nat → Int32)) : gX6_hash (sX6_root S v) = gX6_hash S := rfl
theorem eX6_page_many (S : SX6) (v : (Nat → Int32)) : gX6_page (sX6_many S v) = gX6_page S := rfl
theorem eX6_pageMany_many (S : SX6) (v : (Nat → Int32)) : gX6_pageMany (sX6_many S v) = gX6_pageMany S := rfl
theorem eX6_left_many (S : SX6) (v : (Nat → Int32)) : gX6_left (sX6_many S v) = gX6_left S := rfl
theorem eX6_right_many (S : SX6) (v : (Nat → Int32)) : gX6_right (sX6_many S v) = gX6_right S := rfl
theorem eX6_above_many (S : SX6) (v : (Nat → Int32)) : gX6_above (sX6_many S v) = gX6_above S := rfl
theorem eX6_there_many (S : SX6) (v : (Nat → Int32)) : gX6_there (sX6_many S v) = gX6_there S := rfl
theorem eX6_root_many (S : SX6) (v : (Nat → Int32)) : gX6_root (sX6_many S v) = gX6_root S := rfl
theorem eX6_many_many (S : SX6) (v : (Nat → Int32)) : gX6_many (sX6_many S v) = v := rfl
theorem eX6_most_many (S : SX6) (v : (Nat → Int32)) : gX6_most (sX6_many S v) = gX6_most S := rfl
theorem eX6_builtNow_many (S : SX6) (v : (Nat → Int32)) : gX6_builtNow (sX6_many S v) = gX6_builtNow S := rfl
theorem eX6_built_many (S : SX6) (v : (Nat → Int32)) : gX6_built (sX6_many S v) = gX6_built S := rfl
theorem eX6_cost_many (S : SX6) (v : (Nat → Int32)) : gX6_cost (sX6_many S v) = gX6_cost S := rfl
theorem eX6_kinds_many (S : SX6) (v : (Nat → Int32)) : gX6_kinds (sX6_many S v) = gX6_kinds S := rfl
theorem eX6_values_many (S : SX6) (v : (Nat → Int32)) : gX6_values (sX6_many S v) = gX6_values S := rfl
theorem eX6_ratioA_many (S : SX6) (v : (Nat → Int32)) : gX6_ratioA (sX6_many S v) = gX6_ratioA S := rfl
theorem eX6_ratioB_many (S : SX6) (v : (Nat → Int32)) : gX6_ratioB (sX6_many S v) = gX6_ratioB S := rfl
theorem eX6_thenA_many (S : SX6) (v : (Nat → Int32)) : gX6_thenA (sX6_many S v) = gX6_thenA S := rfl
theorem eX6_thenB_many (S : SX6) (v : (Nat → Int32)) : gX6_thenB (sX6_many S v) = gX6_thenB S := rfl
theorem eX6_fee_many (S : SX6) (v : (Nat → Int32)) : gX6_fee (sX6_many S v) = gX6_fee S := rfl
theorem eX6_credit_many (S : SX6) (v : (Nat → Int32)) : gX6_credit (sX6_many S v) = gX6_credit S := rfl
theorem eX6_lowest_many (S : SX6) (v : (Nat → Int32)) : gX6_lowest (sX6_many S v) = gX6_lowest S := rfl
theorem eX6_log_many (S : SX6) (v : (Nat → Int32)) : gX6_log (sX6_many S v) = gX6_log S := rfl
theorem eX6_logMany_many (S : SX6) (v : (Nat → Int32)) : gX6_logMany (sX6_many S v) = gX6_logMany S := rfl
theorem eX6_shelvesRead_many (S : SX6) (v : (Nat → Int32)) : gX6_shelvesRead (sX6_many S v) = gX6_shelvesRead S := rfl
theorem eX6_row_many (S : SX6) (v : (Nat → Int32)) : gX6_row (sX6_many S v) = gX6_row S := rfl
theorem eX6_spanLow_many (S : SX6) (v : (Nat → Int32)) : gX6_spanLow (sX6_many S v) = gX6_spanLow S := rfl
theorem eX6_spanHigh_many (S : SX6) (v : (Nat → Int32)) : gX6_spanHigh (sX6_many S v) = gX6_spanHigh S := rfl
theorem eX6_spanOn_many (S : SX6) (v : (Nat → Int32)) : gX6_spanOn (sX6_many S v) = gX6_spanOn S := rfl
theorem eX6_seenMany_many (S : SX6) (v : (Nat → Int32)) : gX6_seenMany (sX6_many S v) = gX6_seenMany S := rfl
theorem eX6_sights_many (S : SX6) (v : (Nat → Int32)) : gX6_sights (sX6_many S v) = gX6_sights S := rfl
theorem eX6_seedNow_many (S : SX6) (v : (Nat → Int32)) : gX6_seedNow (sX6_many S v) = gX6_seedNow S := rfl
theorem eX6_hash_many (S : SX6) (v : (Nat → Int32)) : gX6_hash (sX6_many S v) = gX6_hash S := rfl
theorem eX6_page_most (S : SX6) (v : (Nat → Int32)) : gX6_page (sX6_most S v) = gX6_page S := rfl
theorem eX6_pageMany_most (S : SX6) (v : (Nat → Int32)) : gX6_pageMany (sX6_most S v) = gX6_pageMany S := rfl
theorem eX6_left_most (S : SX6) (v : (Nat → Int32)) : gX6_left (sX6_most S v) = gX6_left S := rfl
theorem eX6_right_most (S : SX6) (v : (Nat → Int32)) : gX6_right (sX6_most S v) = gX6_right S := rfl
theorem eX6_above_most (S : SX6) (v : (Nat → Int32)) : gX6_above (sX6_most S v) = gX6_above S := rfl
theorem eX6_there_most (S : SX6) (v : (Nat → Int32)) : gX6_there (sX6_most S v) = gX6_there S := rfl
theorem eX6_root_most (S : SX6) (v : (Nat → Int32)) : gX6_root (sX6_most S v) = gX6_root S := rfl
theorem eX6_many_most (S : SX6) (v : (Nat → Int32)) : gX6_many (sX6_most S v) = gX6_many S := rfl
theorem eX6_most_most (S : SX6) (v : (Nat → Int32)) : gX6_most (sX6_most S v) = v := rfl
theorem eX6_builtNow_most (S : SX6) (v : (Nat → Int32)) : gX6_builtNow (sX6_most S v) = gX6_builtNow S := rfl
theorem eX6_built_most (S : SX6) (v : (Nat → Int32)) : gX6_built (sX6_most S v) = gX6_built S := rfl
theorem eX6_cost_most (S : SX6) (v : (Nat → Int32)) : gX6_cost (sX6_most S v) = gX6_cost S := rfl
theorem eX6_kinds_most (S : SX6) (v : (Nat → Int32)) : gX6_kinds (sX6_most S v) = gX6_kinds S := rfl
theorem eX6_values_most (S : SX6) (v : (Nat → Int32)) : gX6_values (sX6_most S v) = gX6_values S := rfl
theorem eX6_ratioA_most (S : SX6) (v : (Nat → Int32)) : gX6_ratioA (sX6_most S v) = gX6_ratioA S := rfl
theorem eX6_ratioB_most (S : SX6) (v : (Nat → Int32)) : gX6_ratioB (sX6_most S v) = gX6_ratioB S := rfl
theorem eX6_thenA_most (S : SX6) (v : (Nat → Int32)) : gX6_thenA (sX6_most S v) = gX6_thenA S := rfl
theorem eX6_thenB_most (S : SX6) (v : (Nat → Int32)) : gX6_thenB (sX6_most S v) = gX6_thenB S := rfl
theorem eX6_fee_most (S : SX6) (v : (Nat → Int32)) : gX6_fee (sX6_most S v) = gX6_fee S := rfl
theorem eX6_credit_most (S : SX6) (v : (Nat → Int32)) : gX6_credit (sX6_most S v) = gX6_credit S := rfl
theorem eX6_lowest_most (S : SX6) (v : (Nat → Int32)) : gX6_lowest (sX6_most S v) = gX6_lowest S := rfl
theorem eX6_log_most (S : SX6) (v : (Nat → Int32)) : gX6_log (sX6_most S v) = gX6_log S := rfl
theorem eX6_logMany_most (S : SX6) (v : (Nat → Int32)) : gX6_logMany (sX6_most S v) = gX6_logMany S := rfl
theorem eX6_shelvesRead_most (S : SX6) (v : (Nat → Int32)) : gX6_shelvesRead (sX6_most S v) = gX6_shelvesRead S := rfl
theorem eX6_row_most (S : SX6) (v : (Nat → Int32)) : gX6_row (sX6_most S v) = gX6_row S := rfl
theorem eX6_spanLow_most (S : SX6) (v : (Nat → Int32)) : gX6_spanLow (sX6_most S v) = gX6_spanLow S := rfl
theorem eX6_spanHigh_most (S : SX6) (v : (Nat → Int32)) : gX6_spanHigh (sX6_most S v) = gX6_spanHigh S := rfl
theorem eX6_spanOn_most (S : SX6) (v : (Nat → Int32)) : gX6_spanOn (sX6_most S v) = gX6_spanOn S := rfl
theorem eX6_seenMany_most (S : SX6) (v : (Nat → Int32)) : gX6_seenMany (sX6_most S v) = gX6_seenMany S := rfl
theorem eX6_sights_most (S : SX6) (v : (Nat → Int32)) : gX6_sights (sX6_most S v) = gX6_sights S := rfl
theorem eX6_seedNow_most (S : SX6) (v : (Nat → Int32)) : gX6_seedNow (sX6_most S v) = gX6_seedNow S := rfl
theorem eX6_hash_most (S : SX6) (v : (Nat → Int32)) : gX6_hash (sX6_most S v) = gX6_hash S := rfl
theorem eX6_page_builtNow (S : SX6) (v : Int32) : gX6_page (sX6_builtNow S v) = gX6_page S := rfl
theorem eX6_pageMany_builtNow (S : SX6) (v : Int32) : gX6_pageMany (sX6_builtNow S v) = gX6_pageMany S := rfl
theorem eX6_left_builtNow (S : SX6) (v : Int32) : gX6_left (sX6_builtNow S v) = gX6_left S := rfl
theorem eX6_right_builtNow (S : SX6) (v : Int32) : gX6_right (sX6_builtNow S v) = gX6_right S := rfl
theorem eX6_above_builtNow (S : SX6) (v : Int32) : gX6_above (sX6_builtNow S v) = gX6_above S := rfl
theorem eX6_there_builtNow (S : SX6) (v : Int32) : gX6_there (sX6_builtNow S v) = gX6_there S := rfl
theorem eX6_root_builtNow (S : SX6) (v : Int32) : gX6_root (sX6_builtNow S v) = gX6_root S := rfl
theorem eX6_many_builtNow (S : SX6) (v : Int32) : gX6_many (sX6_builtNow S v) = gX6_many S := rfl
theorem eX6_most_builtNow (S : SX6) (v : Int32) : gX6_most (sX6_builtNow S v) = gX6_most S := rfl
theorem eX6_builtNow_builtNow (S : SX6) (v : Int32) : gX6_builtNow (sX6_builtNow S v) = v := rfl
theorem eX6_built_builtNow (S : SX6) (v : Int32) : gX6_built (sX6_builtNow S v) = gX6_built S := rfl
theorem eX6_cost_builtNow (S : SX6) (v : Int32) : gX6_cost (sX6_builtNow S v) = gX6_cost S := rfl
theorem eX6_kinds_builtNow (S : SX6) (v : Int32) : gX6_kinds (sX6_builtNow S v) = gX6_kinds S := rfl
theorem eX6_values_builtNow (S : SX6) (v : Int32) : gX6_values (sX6_builtNow S v) = gX6_values S := rfl
theorem eX6_ratioA_builtNow (S : SX6) (v : Int32) : gX6_ratioA (sX6_builtNow S v) = gX6_ratioA S := rfl
theorem eX6_ratioB_builtNow (S : SX6) (v : Int32) : gX6_ratioB (sX6_builtNow S v) = gX6_ratioB S := rfl
theorem eX6_thenA_builtNow (S : SX6) (v : Int32) : gX6_thenA (sX6_builtNow S v) = gX6_thenA S := rfl
theorem eX6_thenB_builtNow (S : SX6) (v : Int32) : gX6_thenB (sX6_builtNow S v) = gX6_thenB S := rfl
theorem eX6_fee_builtNow (S : SX6) (v : Int32) : gX6_fee (sX6_builtNow S v) = gX6_fee S := rfl
theorem eX6_credit_builtNow (S : SX6) (v : Int32) : gX6_credit (sX6_builtNow S v) = gX6_credit S := rfl
theorem eX6_lowest_builtNow (S : SX6) (v : Int32) : gX6_lowest (sX6_builtNow S v) = gX6_lowest S := rfl
theorem eX6_log_builtNow (S : SX6) (v : Int32) : gX6_log (sX6_builtNow S v) = gX6_log S := rfl
theorem eX6_logMany_builtNow (S : SX6) (v : Int32) : gX6_logMany (sX6_builtNow S v) = gX6_logMany S := rfl
theorem eX6_shelvesRead_builtNow (S : SX6) (v : Int32) : gX6_shelvesRead (sX6_builtNow S v) = gX6_shelvesRead S := rfl
theorem eX6_row_builtNow (S : SX6) (v : Int32) : gX6_row (sX6_builtNow S v) = gX6_row S := rfl
theorem eX6_spanLow_builtNow (S : SX6) (v : Int32) : gX6_spanLow (sX6_builtNow S v) = gX6_spanLow S := rfl
theorem eX6_spanHigh_builtNow (S : SX6) (v : Int32) : gX6_spanHigh (sX6_builtNow S v) = gX6_spanHigh S := rfl
theorem eX6_spanOn_builtNow (S : SX6) (v : Int32) : gX6_spanOn (sX6_builtNow S v) = gX6_spanOn S := rfl
theorem eX6_seenMany_builtNow (S : SX6) (v : Int32) : gX6_seenMany (sX6_builtNow S v) = gX6_seenMany S := rfl
theorem eX6_sights_builtNow (S : SX6) (v : Int32) : gX6_sights (sX6_builtNow S v) = gX6_sights S := rfl
theorem eX6_seedNow_builtNow (S : SX6) (v : Int32) : gX6_seedNow (sX6_builtNow S v) = gX6_seedNow S := rfl
theorem eX6_hash_builtNow (S : SX6) (v : Int32) : gX6_hash (sX6_builtNow S v) = gX6_hash S := rfl
theorem eX6_page_built (S : SX6) (v : (Nat → Int32)) : gX6_page (sX6_built S v) = gX6_page S := rfl
theorem eX6_pageMany_built (S : SX6) (v : (Nat → Int32)) : gX6_pageMany (sX6_built S v) = gX6_pageMany S := rfl
theorem eX6_left_built (S : SX6) (v : (Nat → Int32)) : gX6_left (sX6_built S v) = gX6_left S := rfl
theorem eX6_right_built (S : SX6) (v : (Nat → Int32)) : gX6_right (sX6_built S v) = gX6_right S := rfl
theorem eX6_above_built (S : SX6) (v : (Nat → Int32)) : gX6_above (sX6_built S v) = gX6_above S := rfl
theorem eX6_there_built (S : SX6) (v : (Nat → Int32)) : gX6_there (sX6_built S v) = gX6_there S := rfl
theorem eX6_root_built (S : SX6) (v : (Nat → Int32)) : gX6_root (sX6_built S v) = gX6_root S := rfl
theorem eX6_many_built (S : SX6) (v : (Nat → Int32)) : gX6_many (sX6_built S v) = gX6_many S := rfl
theorem eX6_most_built (S : SX6) (v : (Nat → Int32)) : gX6_most (sX6_built S v) = gX6_most S := rfl
theorem eX6_builtNow_built (S : SX6) (v : (Nat → Int32)) : gX6_builtNow (sX6_built S v) = gX6_builtNow S := rfl
theorem eX6_built_built (S : SX6) (v : (Nat → Int32)) : gX6_built (sX6_built S v) = v := rfl
theorem eX6_cost_built (S : SX6) (v : (Nat → Int32)) : gX6_cost (sX6_built S v) = gX6_cost S := rfl
theorem eX6_kinds_built (S : SX6) (v : (Nat → Int32)) : gX6_kinds (sX6_built S v) = gX6_kinds S := rfl
theorem eX6_values_built (S : SX6) (v : (Nat → Int32)) : gX6_values (sX6_built S v) = gX6_values S := rfl
theorem eX6_ratioA_built (S : SX6) (v : (Nat → Int32)) : gX6_ratioA (sX6_built S v) = gX6_ratioA S := rfl
theorem eX6_ratioB_built (S : SX6) (v : (Nat → Int32)) : gX6_ratioB (sX6_built S v) = gX6_ratioB S := rfl
theorem eX6_thenA_built (S : SX6) (v : (Nat → Int32)) : gX6_thenA (sX6_built S v) = gX6_thenA S := rfl
theorem eX6_thenB_built (S : SX6) (v : (Nat → Int32)) : gX6_thenB (sX6_built S v) = gX6_thenB S := rfl
theorem eX6_fee_built (S : SX6) (v : (Nat → Int32)) : gX6_fee (sX6_built S v) = gX6_fee S := rfl
theorem eX6_credit_built (S : SX6) (v : (Nat → Int32)) : gX6_credit (sX6_built S v) = gX6_credit S := rfl
theorem eX6_lowest_built (S : SX6) (v : (Nat → Int32)) : gX6_lowest (sX6_built S v) = gX6_lowest S := rfl
theorem eX6_log_built (S : SX6) (v : (Nat → Int32)) : gX6_log (sX6_built S v) = gX6_log S := rfl
theorem eX6_logMany_built (S : SX6) (v : (Nat → Int32)) : gX6_logMany (sX6_built S v) = gX6_logMany S := rfl
theorem eX6_shelvesRead_built (S : SX6) (v : (Nat → Int32)) : gX6_shelvesRead (sX6_built S v) = gX6_shelvesRead S := rfl
theorem eX6_row_built (S : SX6) (v : (Nat → Int32)) : gX6_row (sX6_built S v) = gX6_row S := rfl
theorem eX6_spanLow_built (S : SX6) (v : (Nat → Int32)) : gX6_spanLow (sX6_built S v) = gX6_spanLow S := rfl
theorem eX6_spanHigh_built (S : SX6) (v : (Nat → Int32)) : gX6_spanHigh (sX6_built S v) = gX6_spanHigh S := rfl
theorem eX6_spanOn_built (S : SX6) (v : (Nat → Int32)) : gX6_spanOn (sX6_built S v) = gX6_spanOn S := rfl
theorem eX6_seenMany_built (S : SX6) (v : (Nat → Int32)) : gX6_seenMany (sX6_built S v) = gX6_seenMany S := rfl
theorem eX6_sights_built (S : SX6) (v : (Nat → Int32)) : gX6_sights (sX6_built S v) = gX6_sights S := rfl
theorem eX6_seedNow_built (S : SX6) (v : (Nat → Int32)) : gX6_seedNow (sX6_built S v) = gX6_seedNow S := rfl
theorem eX6_hash_built (S : SX6) (v : (Nat → Int32)) : gX6_hash (sX6_built S v) = gX6_hash S := rfl
theorem eX6_page_cost (S : SX6) (v : (Nat → Int32)) : gX6_page (sX6_cost S v) = gX6_page S := rfl
theorem eX6_pageMany_cost (S : SX6) (v : (Nat → Int32)) : gX6_pageMany (sX6_cost S v) = gX6_pageMany S := rfl
theorem eX6_left_cost (S : SX6) (v : (Nat → Int32)) : gX6_left (sX6_cost S v) = gX6_left S := rfl
theorem eX6_right_cost (S : SX6) (v : (Nat → Int32)) : gX6_right (sX6_cost S v) = gX6_right S := rfl
theorem eX6_above_cost (S : SX6) (v : (Nat → Int32)) : gX6_above (sX6_cost S v) = gX6_above S := rfl
theorem eX6_there_cost (S : SX6) (v : (Nat → Int32)) : gX6_there (sX6_cost S v) = gX6_there S := rfl
theorem eX6_root_cost (S : SX6) (v : (Nat → Int32)) : gX6_root (sX6_cost S v) = gX6_root S := rfl
theorem eX6_many_cost (S : SX6) (v : (Nat → Int32)) : gX6_many (sX6_cost S v) = gX6_many S := rfl
theorem eX6_most_cost (S : SX6) (v : (Nat → Int32)) : gX6_most (sX6_cost S v) = gX6_most S := rfl
theorem eX6_builtNow_cost (S : SX6) (v : (Nat → Int32)) : gX6_builtNow (sX6_cost S v) = gX6_builtNow S := rfl
theorem eX6_built_cost (S : SX6) (v : (Nat → Int32)) : gX6_built (sX6_cost S v) = gX6_built S := rfl
theorem eX6_cost_cost (S : SX6) (v : (Nat → Int32)) : gX6_cost (sX6_cost S v) = v := rfl
theorem eX6_kinds_cost (S : SX6) (v : (Nat → Int32)) : gX6_kinds (sX6_cost S v) = gX6_kinds S := rfl
theorem eX6_values_cost (S : SX6) (v : (Nat → Int32)) : gX6_values (sX6_cost S v) = gX6_values S := rfl
theorem eX6_ratioA_cost (S : SX6) (v : (Nat → Int32)) : gX6_ratioA (sX6_cost S v) = gX6_ratioA S := rfl
theorem eX6_ratioB_cost (S : SX6) (v : (Nat → Int32)) : gX6_ratioB (sX6_cost S v) = gX6_ratioB S := rfl
theorem eX6_thenA_cost (S : SX6) (v : (Nat → Int32)) : gX6_thenA (sX6_cost S v) = gX6_thenA S := rfl
theorem eX6_thenB_cost (S : SX6) (v : (Nat → Int32)) : gX6_thenB (sX6_cost S v) = gX6_thenB S := rfl
theorem eX6_fee_cost (S : SX6) (v : (Nat → Int32)) : gX6_fee (sX6_cost S v) = gX6_fee S := rfl
theorem eX6_credit_cost (S : SX6) (v : (Nat → Int32)) : gX6_credit (sX6_cost S v) = gX6_credit S := rfl
theorem eX6_lowest_cost (S : SX6) (v : (Nat → Int32)) : gX6_lowest (sX6_cost S v) = gX6_lowest S := rfl
theorem eX6_log_cost (S : SX6) (v : (Nat → Int32)) : gX6_log (sX6_cost S v) = gX6_log S := rfl
theorem eX6_logMany_cost (S : SX6) (v : (Nat → Int32)) : gX6_logMany (sX6_cost S v) = gX6_logMany S := rfl
theorem eX6_shelvesRead_cost (S : SX6) (v : (Nat → Int32)) : gX6_shelvesRead (sX6_cost S v) = gX6_shelvesRead S := rfl
theorem eX6_row_cost (S : SX6) (v : (Nat → Int32)) : gX6_row (sX6_cost S v) = gX6_row S := rfl
theorem eX6_spanLow_cost (S : SX6) (v : (Nat → Int32)) : gX6_spanLow (sX6_cost S v) = gX6_spanLow S := rfl
theorem eX6_spanHigh_cost (S : SX6) (v : (Nat → Int32)) : gX6_spanHigh (sX6_cost S v) = gX6_spanHigh S := rfl
theorem eX6_spanOn_cost (S : SX6) (v : (Nat → Int32)) : gX6_spanOn (sX6_cost S v) = gX6_spanOn S := rfl
theorem eX6_seenMany_cost (S : SX6) (v : (Nat → Int32)) : gX6_seenMany (sX6_cost S v) = gX6_seenMany S := rfl
theorem eX6_sights_cost (S : SX6) (v : (Nat → Int32)) : gX6_sights (sX6_cost S v) = gX6_sights S := rfl
theorem eX6_seedNow_cost (S : SX6) (v : (Nat → Int32)) : gX6_seedNow (sX6_cost S v) = gX6_seedNow S := rfl
theorem eX6_hash_cost (S : SX6) (v : (Nat → Int32)) : gX6_hash (sX6_cost S v) = gX6_hash S := rfl
theorem eX6_page_kinds (S : SX6) (v : (Nat → Int32)) : gX6_page (sX6_kinds S v) = gX6_page S := rfl
theorem eX6_pageMany_kinds (S : SX6) (v : (Nat → Int32)) : gX6_pageMany (sX6_kinds S v) = gX6_pageMany S := rfl
theorem eX6_left_kinds (S : SX6) (v : (Nat → Int32)) : gX6_left (sX6_kinds S v) = gX6_left S := rfl
theorem eX6_right_kinds (S : SX6) (v : (Nat → Int32)) : gX6_right (sX6_kinds S v) = gX6_right S := rfl
theorem eX6_above_kinds (S : SX6) (v : (Nat → Int32)) : gX6_above (sX6_kinds S v) = gX6_above S := rfl
theorem eX6_there_kinds (S : SX6) (v : (Nat → Int32)) : gX6_there (sX6_kinds S v) = gX6_there S := rfl
theorem eX6_root_kinds (S : SX6) (v : (Nat → Int32)) : gX6_root (sX6_kinds S v) = gX6_root S := rfl
theorem eX6_many_kinds (S : SX6) (v : (Nat → Int32)) : gX6_many (sX6_kinds S v) = gX6_many S := rfl
theorem eX6_most_kinds (S : SX6) (v : (Nat → Int32)) : gX6_most (sX6_kinds S v) = gX6_most S := rfl
theorem eX6_builtNow_kinds (S : SX6) (v : (Nat → Int32)) : gX6_builtNow (sX6_kinds S v) = gX6_builtNow S := rfl
theorem eX6_built_kinds (S : SX6) (v : (Nat → Int32)) : gX6_built (sX6_kinds S v) = gX6_built S := rfl
theorem eX6_cost_kinds (S : SX6) (v : (Nat → Int32)) : gX6_cost (sX6_kinds S v) = gX6_cost S := rfl
theorem eX6_kinds_kinds (S : SX6) (v : (Nat → Int32)) : gX6_kinds (sX6_kinds S v) = v := rfl
theorem eX6_values_kinds (S : SX6) (v : (Nat → Int32)) : gX6_values (sX6_kinds S v) = gX6_values S := rfl
theorem eX6_ratioA_kinds (S : SX6) (v : (Nat → Int32)) : gX6_ratioA (sX6_kinds S v) = gX6_ratioA S := rfl
theorem eX6_ratioB_kinds (S : SX6) (v : (Nat → Int32)) : gX6_ratioB (sX6_kinds S v) = gX6_ratioB S := rfl
theorem eX6_thenA_kinds (S : SX6) (v : (Nat → Int32)) : gX6_thenA (sX6_kinds S v) = gX6_thenA S := rfl
theorem eX6_thenB_kinds (S : SX6) (v : (Nat → Int32)) : gX6_thenB (sX6_kinds S v) = gX6_thenB S := rfl
theorem eX6_fee_kinds (S : SX6) (v : (Nat → Int32)) : gX6_fee (sX6_kinds S v) = gX6_fee S := rfl
theorem eX6_credit_kinds (S : SX6) (v : (Nat → Int32)) : gX6_credit (sX6_kinds S v) = gX6_credit S := rfl
theorem eX6_lowest_kinds (S : SX6) (v : (Nat → Int32)) : gX6_lowest (sX6_kinds S v) = gX6_lowest S := rfl
theorem eX6_log_kinds (S : SX6) (v : (Nat → Int32)) : gX6_log (sX6_kinds S v) = gX6_log S := rfl
theorem eX6_logMany_kinds (S : SX6) (v : (Nat → Int32)) : gX6_logMany (sX6_kinds S v) = gX6_logMany S := rfl
theorem eX6_shelvesRead_kinds (S : SX6) (v : (Nat → Int32)) : gX6_shelvesRead (sX6_kinds S v) = gX6_shelvesRead S := rfl
theorem eX6_row_kinds (S : SX6) (v : (Nat → Int32)) : gX6_row (sX6_kinds S v) = gX6_row S := rfl
theorem eX6_spanLow_kinds (S : SX6) (v : (Nat → Int32)) : gX6_spanLow (sX6_kinds S v) = gX6_spanLow S := rfl
theorem eX6_spanHigh_kinds (S : SX6) (v : (Nat → Int32)) : gX6_spanHigh (sX6_kinds S v) = gX6_spanHigh S := rfl
theorem eX6_spanOn_kinds (S : SX6) (v : (Nat → Int32)) : gX6_spanOn (sX6_kinds S v) = gX6_spanOn S := rfl
theorem eX6_seenMany_kinds (S : SX6) (v : (Nat → Int32)) : gX6_seenMany (sX6_kinds S v) = gX6_seenMany S := rfl
theorem eX6_sights_kinds (S : SX6) (v : (Nat → Int32)) : gX6_sights (sX6_kinds S v) = gX6_sights S := rfl
theorem eX6_seedNow_kinds (S : SX6) (v : (Nat → Int32)) : gX6_seedNow (sX6_kinds S v) = gX6_seedNow S := rfl
theorem eX6_hash_kinds (S : SX6) (v : (Nat → Int32)) : gX6_hash (sX6_kinds S v) = gX6_hash S := rfl
theorem eX6_page_values (S : SX6) (v : (Nat → Int32)) : gX6_page (sX6_values S v) = gX6_page S := rfl
theorem eX6_pageMany_values (S : SX6) (v : (Nat → Int32)) : gX6_pageMany (sX6_values S v) = gX6_pageMany S := rfl
theorem eX6_left_values (S : SX6) (v : (Nat → Int32)) : gX6_left (sX6_values S v) = gX6_left S := rfl
theorem eX6_right_values (S : SX6) (v : (Nat → Int32)) : gX6_right (sX6_values S v) = gX6_right S := rfl
theorem eX6_above_values (S : SX6) (v : (Nat → Int32)) : gX6_above (sX6_values S v) = gX6_above S := rfl
theorem eX6_there_values (S : SX6) (v : (Nat → Int32)) : gX6_there (sX6_values S v) = gX6_there S := rfl
theorem eX6_root_values (S : SX6) (v : (Nat → Int32)) : gX6_root (sX6_values S v) = gX6_root S := rfl
theorem eX6_many_values (S : SX6) (v : (Nat → Int32)) : gX6_many (sX6_values S v) = gX6_many S := rfl
theorem eX6_most_values (S : SX6) (v : (Nat → Int32)) : gX6_most (sX6_values S v) = gX6_most S := rfl
theorem eX6_builtNow_values (S : SX6) (v : (Nat → Int32)) : gX6_builtNow (sX6_values S v) = gX6_builtNow S := rfl
theorem eX6_built_values (S : SX6) (v : (Nat → Int32)) : gX6_built (sX6_values S v) = gX6_built S := rfl
theorem eX6_cost_values (S : SX6) (v : (Nat → Int32)) : gX6_cost (sX6_values S v) = gX6_cost S := rfl
theorem eX6_kinds_values (S : SX6) (v : (Nat → Int32)) : gX6_kinds (sX6_values S v) = gX6_kinds S := rfl
theorem eX6_values_values (S : SX6) (v : (Nat → Int32)) : gX6_values (sX6_values S v) = v := rfl
theorem eX6_ratioA_values (S : SX6) (v : (Nat → Int32)) : gX6_ratioA (sX6_values S v) = gX6_ratioA S := rfl
theorem eX6_ratioB_values (S : SX6) (v : (Nat → Int32)) : gX6_ratioB (sX6_values S v) = gX6_ratioB S := rfl
theorem eX6_thenA_values (S : SX6) (v : (Nat → Int32)) : gX6_thenA (sX6_values S v) = gX6_thenA S := rfl
theorem eX6_thenB_values (S : SX6) (v : (Nat → Int32)) : gX6_thenB (sX6_values S v) = gX6_thenB S := rfl
theorem eX6_fee_values (S : SX6) (v : (Nat → Int32)) : gX6_fee (sX6_values S v) = gX6_fee S := rfl
theorem eX6_credit_values (S : SX6) (v : (Nat → Int32)) : gX6_credit (sX6_values S v) = gX6_credit S := rfl
theorem eX6_lowest_values (S : SX6) (v : (Nat → Int32)) : gX6_lowest (sX6_values S v) = gX6_lowest S := rfl
theorem eX6_log_values (S : SX6) (v : (Nat → Int32)) : gX6_log (sX6_values S v) = gX6_log S := rfl
theorem eX6_logMany_values (S : SX6) (v : (Nat → Int32)) : gX6_logMany (sX6_values S v) = gX6_logMany S := rfl
theorem eX6_shelvesRead_values (S : SX6) (v : (Nat → Int32)) : gX6_shelvesRead (sX6_values S v) = gX6_shelvesRead S := rfl
theorem eX6_row_values (S : SX6) (v : (Nat → Int32)) : gX6_row (sX6_values S v) = gX6_row S := rfl
theorem eX6_spanLow_values (S : SX6) (v : (Nat → Int32)) : gX6_spanLow (sX6_values S v) = gX6_spanLow S := rfl
theorem eX6_spanHigh_values (S : SX6) (v : (Nat → Int32)) : gX6_spanHigh (sX6_values S v) = gX6_spanHigh S := rfl
theorem eX6_spanOn_values (S : SX6) (v : (Nat → Int32)) : gX6_spanOn (sX6_values S v) = gX6_spanOn S := rfl
theorem eX6_seenMany_values (S : SX6) (v : (Nat → Int32)) : gX6_seenMany (sX6_values S v) = gX6_seenMany S := rfl
theorem eX6_sights_values (S : SX6) (v : (Nat → Int32)) : gX6_sights (sX6_values S v) = gX6_sights S := rfl
theorem eX6_seedNow_values (S : SX6) (v : (Nat → Int32)) : gX6_seedNow (sX6_values S v) = gX6_seedNow S := rfl
theorem eX6_hash_values (S : SX6) (v : (Nat → Int32)) : gX6_hash (sX6_values S v) = gX6_hash S := rfl
theorem eX6_page_ratioA (S : SX6) (v : Int32) : gX6_page (sX6_ratioA S v) = gX6_page S := rfl
theorem eX6_pageMany_ratioA (S : SX6) (v : Int32) : gX6_pageMany (sX6_ratioA S v) = gX6_pageMany S := rfl
theorem eX6_left_ratioA (S : SX6) (v : Int32) : gX6_left (sX6_ratioA S v) = gX6_left S := rfl
theorem eX6_right_ratioA (S : SX6) (v : Int32) : gX6_right (sX6_ratioA S v) = gX6_right S := rfl
theorem eX6_above_ratioA (S : SX6) (v : Int32) : gX6_above (sX6_ratioA S v) = gX6_above S := rfl
theorem eX6_there_ratioA (S : SX6) (v : Int32) : gX6_there (sX6_ratioA S v) = gX6_there S := rfl
theorem eX6_root_ratioA (S : SX6) (v : Int32) : gX6_root (sX6_ratioA S v) = gX6_root S := rfl
theorem eX6_many_ratioA (S : SX6) (v : Int32) : gX6_many (sX6_ratioA S v) = gX6_many S := rfl
theorem eX6_most_ratioA (S : SX6) (v : Int32) : gX6_most (sX6_ratioA S v) = gX6_most S := rfl
theorem eX6_builtNow_ratioA (S : SX6) (v : Int32) : gX6_builtNow (sX6_ratioA S v) = gX6_builtNow S := rfl
theorem eX6_built_ratioA (S : SX6) (v : Int32) : gX6_built (sX6_ratioA S v) = gX6_built S := rfl
theorem eX6_cost_ratioA (S : SX6) (v : Int32) : gX6_cost (sX6_ratioA S v) = gX6_cost S := rfl
theorem eX6_kinds_ratioA (S : SX6) (v : Int32) : gX6_kinds (sX6_ratioA S v) = gX6_kinds S := rfl
theorem eX6_values_ratioA (S : SX6) (v : Int32) : gX6_values (sX6_ratioA S v) = gX6_values S := rfl
theorem eX6_ratioA_ratioA (S : SX6) (v : Int32) : gX6_ratioA (sX6_ratioA S v) = v := rfl
theorem eX6_ratioB_ratioA (S : SX6) (v : Int32) : gX6_ratioB (sX6_ratioA S v) = gX6_ratioB S := rfl
theorem eX6_thenA_ratioA (S : SX6) (v : Int32) : gX6_thenA (sX6_ratioA S v) = gX6_thenA S := rfl
theorem eX6_thenB_ratioA (S : SX6) (v : Int32) : gX6_thenB (sX6_ratioA S v) = gX6_thenB S := rfl
theorem eX6_fee_ratioA (S : SX6) (v : Int32) : gX6_fee (sX6_ratioA S v) = gX6_fee S := rfl
theorem eX6_credit_ratioA (S : SX6) (v : Int32) : gX6_credit (sX6_ratioA S v) = gX6_credit S := rfl
theorem eX6_lowest_ratioA (S : SX6) (v : Int32) : gX6_lowest (sX6_ratioA S v) = gX6_lowest S := rfl
theorem eX6_log_ratioA (S : SX6) (v : Int32) : gX6_log (sX6_ratioA S v) = gX6_log S := rfl
theorem eX6_logMany_ratioA (S : SX6) (v : Int32) : gX6_logMany (sX6_ratioA S v) = gX6_logMany S := rfl
theorem eX6_shelvesRead_ratioA (S : SX6) (v : Int32) : gX6_shelvesRead (sX6_ratioA S v) = gX6_shelvesRead S := rfl
theorem eX6_row_ratioA (S : SX6) (v : Int32) : gX6_row (sX6_ratioA S v) = gX6_row S := rfl
theorem eX6_spanLow_ratioA (S : SX6) (v : Int32) : gX6_spanLow (sX6_ratioA S v) = gX6_spanLow S := rfl
theorem eX6_spanHigh_ratioA (S : SX6) (v : Int32) : gX6_spanHigh (sX6_ratioA S v) = gX6_spanHigh S := rfl
theorem eX6_spanOn_ratioA (S : SX6) (v : Int32) : gX6_spanOn (sX6_ratioA S v) = gX6_spanOn S := rfl
theorem eX6_seenMany_ratioA (S : SX6) (v : Int32) : gX6_seenMany (sX6_ratioA S v) = gX6_seenMany S := rfl
theorem eX6_sights_ratioA (S : SX6) (v : Int32) : gX6_sights (sX6_ratioA S v) = gX6_sights S := rfl
theorem eX6_seedNow_ratioA (S : SX6) (v : Int32) : gX6_seedNow (sX6_ratioA S v) = gX6_seedNow S := rfl
theorem eX6_hash_ratioA (S : SX6) (v : Int32) : gX6_hash (sX6_ratioA S v) = gX6_hash S := rfl
theorem eX6_page_ratioB (S : SX6) (v : Int32) : gX6_page (sX6_ratioB S v) = gX6_page S := rfl
theorem eX6_pageMany_ratioB (S : SX6) (v : Int32) : gX6_pageMany (sX6_ratioB S v) = gX6_pageMany S := rfl
theorem eX6_left_ratioB (S : SX6) (v : Int32) : gX6_left (sX6_ratioB S v) = gX6_left S := rfl
theorem eX6_right_ratioB (S : SX6) (v : Int32) : gX6_right (sX6_ratioB S v) = gX6_right S := rfl
theorem eX6_above_ratioB (S : SX6) (v : Int32) : gX6_above (sX6_ratioB S v) = gX6_above S := rfl
theorem eX6_there_ratioB (S : SX6) (v : Int32) : gX6_there (sX6_ratioB S v) = gX6_there S := rfl
theorem eX6_root_ratioB (S : SX6) (v : Int32) : gX6_root (sX6_ratioB S v) = gX6_root S := rfl
theorem eX6_many_ratioB (S : SX6) (v : Int32) : gX6_many (sX6_ratioB S v) = gX6_many S := rfl
theorem eX6_most_ratioB (S : SX6) (v : Int32) : gX6_most (sX6_ratioB S v) = gX6_most S := rfl
theorem eX6_builtNow_ratioB (S : SX6) (v : Int32) : gX6_builtNow (sX6_ratioB S v) = gX6_builtNow S := rfl
theorem eX6_built_ratioB (S : SX6) (v : Int32) : gX6_built (sX6_ratioB S v) = gX6_built S := rfl
theorem eX6_cost_ratioB (S : SX6) (v : Int32) : gX6_cost (sX6_ratioB S v) = gX6_cost S := rfl
theorem eX6_kinds_ratioB (S : SX6) (v : Int32) : gX6_kinds (sX6_ratioB S v) = gX6_kinds S := rfl
theorem eX6_values_ratioB (S : SX6) (v : Int32) : gX6_values (sX6_ratioB S v) = gX6_values S := rfl
theorem eX6_ratioA_ratioB (S : SX6) (v : Int32) : gX6_ratioA (sX6_ratioB S v) = gX6_ratioA S := rfl
theorem eX6_ratioB_ratioB (S : SX6) (v : Int32) : gX6_ratioB (sX6_ratioB S v) = v := rfl
theorem eX6_thenA_ratioB (S : SX6) (v : Int32) : gX6_thenA (sX6_ratioB S v) = gX6_thenA S := rfl
theorem eX6_thenB_ratioB (S : SX6) (v : Int32) : gX6_thenB (sX6_ratioB S v) = gX6_thenB S := rfl
theorem eX6_fee_ratioB (S : SX6) (v : Int32) : gX6_fee (sX6_ratioB S v) = gX6_fee S := rfl
theorem eX6_credit_ratioB (S : SX6) (v : Int32) : gX6_credit (sX6_ratioB S v) = gX6_credit S := rfl
theorem eX6_lowest_ratioB (S : SX6) (v : Int32) : gX6_lowest (sX6_ratioB S v) = gX6_lowest S := rfl
theorem eX6_log_ratioB (S : SX6) (v : Int32) : gX6_log (sX6_ratioB S v) = gX6_log S := rfl
theorem eX6_logMany_ratioB (S : SX6) (v : Int32) : gX6_logMany (sX6_ratioB S v) = gX6_logMany S := rfl
theorem eX6_shelvesRead_ratioB (S : SX6) (v : Int32) : gX6_shelvesRead (sX6_ratioB S v) = gX6_shelvesRead S := rfl
theorem eX6_row_ratioB (S : SX6) (v : Int32) : gX6_row (sX6_ratioB S v) = gX6_row S := rfl
theorem eX6_spanLow_ratioB (S : SX6) (v : Int32) : gX6_spanLow (sX6_ratioB S v) = gX6_spanLow S := rfl
theorem eX6_spanHigh_ratioB (S : SX6) (v : Int32) : gX6_spanHigh (sX6_ratioB S v) = gX6_spanHigh S := rfl
theorem eX6_spanOn_ratioB (S : SX6) (v : Int32) : gX6_spanOn (sX6_ratioB S v) = gX6_spanOn S := rfl
theorem eX6_seenMany_ratioB (S : SX6) (v : Int32) : gX6_seenMany (sX6_ratioB S v) = gX6_seenMany S := rfl
theorem eX6_sights_ratioB (S : SX6) (v : Int32) : gX6_sights (sX6_ratioB S v) = gX6_sights S := rfl
theorem eX6_seedNow_ratioB (S : SX6) (v : Int32) : gX6_seedNow (sX6_ratioB S v) = gX6_seedNow S := rfl
theorem eX6_hash_ratioB (S : SX6) (v : Int32) : gX6_hash (sX6_ratioB S v) = gX6_hash S := rfl
theorem eX6_page_thenA (S : SX6) (v : Int32) : gX6_page (sX6_thenA S v) = gX6_page S := rfl
theorem eX6_pageMany_thenA (S : SX6) (v : Int32) : gX6_pageMany (sX6_thenA S v) = gX6_pageMany S := rfl
theorem eX6_left_thenA (S : SX6) (v : Int32) : gX6_left (sX6_thenA S v) = gX6_left S := rfl
theorem eX6_right_thenA (S : SX6) (v : Int32) : gX6_right (sX6_thenA S v) = gX6_right S := rfl
theorem eX6_above_thenA (S : SX6) (v : Int32) : gX6_above (sX6_thenA S v) = gX6_above S := rfl
theorem eX6_there_thenA (S : SX6) (v : Int32) : gX6_there (sX6_thenA S v) = gX6_there S := rfl
theorem eX6_root_thenA (S : SX6) (v : Int32) : gX6_root (sX6_thenA S v) = gX6_root S := rfl
theorem eX6_many_thenA (S : SX6) (v : Int32) : gX6_many (sX6_thenA S v) = gX6_many S := rfl
theorem eX6_most_thenA (S : SX6) (v : Int32) : gX6_most (sX6_thenA S v) = gX6_most S := rfl
theorem eX6_builtNow_thenA (S : SX6) (v : Int32) : gX6_builtNow (sX6_thenA S v) = gX6_builtNow S := rfl
theorem eX6_built_thenA (S : SX6) (v : Int32) : gX6_built (sX6_thenA S v) = gX6_built S := rfl
theorem eX6_cost_thenA (S : SX6) (v : Int32) : gX6_cost (sX6_thenA S v) = gX6_cost S := rfl
theorem eX6_kinds_thenA (S : SX6) (v : Int32) : gX6_kinds (sX6_thenA S v) = gX6_kinds S := rfl
theorem eX6_values_thenA (S : SX6) (v : Int32) : gX6_values (sX6_thenA S v) = gX6_values S := rfl
theorem eX6_ratioA_thenA (S : SX6) (v : Int32) : gX6_ratioA (sX6_thenA S v) = gX6_ratioA S := rfl
theorem eX6_ratioB_thenA (S : SX6) (v : Int32) : gX6_ratioB (sX6_thenA S v) = gX6_ratioB S := rfl
theorem eX6_thenA_thenA (S : SX6) (v : Int32) : gX6_thenA (sX6_thenA S v) = v := rfl
theorem eX6_thenB_thenA (S : SX6) (v : Int32) : gX6_thenB (sX6_thenA S v) = gX6_thenB S := rfl
theorem eX6_fee_thenA (S : SX6) (v : Int32) : gX6_fee (sX6_thenA S v) = gX6_fee S := rfl
theorem eX6_credit_thenA (S : SX6) (v : Int32) : gX6_credit (sX6_thenA S v) = gX6_credit S := rfl
theorem eX6_lowest_thenA (S : SX6) (v : Int32) : gX6_lowest (sX6_thenA S v) = gX6_lowest S := rfl
theorem eX6_log_thenA (S : SX6) (v : Int32) : gX6_log (sX6_thenA S v) = gX6_log S := rfl
theorem eX6_logMany_thenA (S : SX6) (v : Int32) : gX6_logMany (sX6_thenA S v) = gX6_logMany S := rfl
theorem eX6_shelvesRead_thenA (S : SX6) (v : Int32) : gX6_shelvesRead (sX6_thenA S v) = gX6_shelvesRead S := rfl
theorem eX6_row_thenA (S : SX6) (v : Int32) : gX6_row (sX6_thenA S v) = gX6_row S := rfl
theorem eX6_spanLow_thenA (S : SX6) (v : Int32) : gX6_spanLow (sX6_thenA S v) = gX6_spanLow S := rfl
theorem eX6_spanHigh_thenA (S : SX6) (v : Int32) : gX6_spanHigh (sX6_thenA S v) = gX6_spanHigh S := rfl
theorem eX6_spanOn_thenA (S : SX6) (v : Int32) : gX6_spanOn (sX6_thenA S v) = gX6_spanOn S := rfl
theorem eX6_seenMany_thenA (S : SX6) (v : Int32) : gX6_seenMany (sX6_thenA S v) = gX6_seenMany S := rfl
theorem eX6_sights_thenA (S : SX6) (v : Int32) : gX6_sights (sX6_thenA S v) = gX6_sights S := rfl
theorem eX6_seedNow_thenA (S : SX6) (v : Int32) : gX6_seedNow (sX6_thenA S v) = gX6_seedNow S := rfl
theorem eX6_hash_thenA (S : SX6) (v : Int32) : gX6_hash (sX6_thenA S v) = gX6_hash S := rfl
theorem eX6_page_thenB (S : SX6) (v : Int32) : gX6_page (sX6_thenB S v) = gX6_page S := rfl
theorem eX6_pageMany_thenB (S : SX6) (v : Int32) : gX6_pageMany (sX6_thenB S v) = gX6_pageMany S := rfl
theorem eX6_left_thenB (S : SX6) (v : Int32) : gX6_left (sX6_thenB S v) = gX6_left S := rfl
theorem eX6_right_thenB (S : SX6) (v : Int32) : gX6_right (sX6_thenB S v) = gX6_right S := rfl
theorem eX6_above_thenB (S : SX6) (v : Int32) : gX6_above (sX6_thenB S v) = gX6_above S := rfl
theorem eX6_there_thenB (S : SX6) (v : Int32) : gX6_there (sX6_thenB S v) = gX6_there S := rfl
theorem eX6_root_thenB (S : SX6) (v : Int32) : gX6_root (sX6_thenB S v) = gX6_root S := rfl
theorem eX6_many_thenB (S : SX6) (v : Int32) : gX6_many (sX6_thenB S v) = gX6_many S := rfl
theorem eX6_most_thenB (S : SX6) (v : Int32) : gX6_most (sX6_thenB S v) = gX6_most S := rfl
theorem eX6_builtNow_thenB (S : SX6) (v : Int32) : gX6_builtNow (sX6_thenB S v) = gX6_builtNow S := rfl
theorem eX6_built_thenB (S : SX6) (v : Int32) : gX6_built (sX6_thenB S v) = gX6_built S := rfl
theorem eX6_cost_thenB (S : SX6) (v : Int32) : gX6_cost (sX6_thenB S v) = gX6_cost S := rfl
theorem eX6_kinds_thenB (S : SX6) (v : Int32) : gX6_kinds (sX6_thenB S v) = gX6_kinds S := rfl
theorem eX6_values_thenB (S : SX6) (v : Int32) : gX6_values (sX6_thenB S v) = gX6_values S := rfl
theorem eX6_ratioA_thenB (S : SX6) (v : Int32) : gX6_ratioA (sX6_thenB S v) = gX6_ratioA S := rfl
theorem eX6_ratioB_thenB (S : SX6) (v : Int32) : gX6_ratioB (sX6_thenB S v) = gX6_ratioB S := rfl
theorem eX6_thenA_thenB (S : SX6) (v : Int32) : gX6_thenA (sX6_thenB S v) = gX6_thenA S := rfl
theorem eX6_thenB_thenB (S : SX6) (v : Int32) : gX6_thenB (sX6_thenB S v) = v := rfl
theorem eX6_fee_thenB (S : SX6) (v : Int32) : gX6_fee (sX6_thenB S v) = gX6_fee S := rfl
theorem eX6_credit_thenB (S : SX6) (v : Int32) : gX6_credit (sX6_thenB S v) = gX6_credit S := rfl
theorem eX6_lowest_thenB (S : SX6) (v : Int32) : gX6_lowest (sX6_thenB S v) = gX6_lowest S := rfl
theorem eX6_log_thenB (S : SX6) (v : Int32) : gX6_log (sX6_thenB S v) = gX6_log S := rfl
theorem eX6_logMany_thenB (S : SX6) (v : Int32) : gX6_logMany (sX6_thenB S v) = gX6_logMany S := rfl
theorem eX6_shelvesRead_thenB (S : SX6) (v : Int32) : gX6_shelvesRead (sX6_thenB S v) = gX6_shelvesRead S := rfl
theorem eX6_row_thenB (S : SX6) (v : Int32) : gX6_row (sX6_thenB S v) = gX6_row S := rfl
theorem eX6_spanLow_thenB (S : SX6) (v : Int32) : gX6_spanLow (sX6_thenB S v) = gX6_spanLow S := rfl
theorem eX6_spanHigh_thenB (S : SX6) (v : Int32) : gX6_spanHigh (sX6_thenB S v) = gX6_spanHigh S := rfl
theorem eX6_spanOn_thenB (S : SX6) (v : Int32) : gX6_spanOn (sX6_thenB S v) = gX6_spanOn S := rfl
theorem eX6_seenMany_thenB (S : SX6) (v : Int32) : gX6_seenMany (sX6_thenB S v) = gX6_seenMany S := rfl
theorem eX6_sights_thenB (S : SX6) (v : Int32) : gX6_sights (sX6_thenB S v) = gX6_sights S := rfl
theorem eX6_seedNow_thenB (S : SX6) (v : Int32) : gX6_seedNow (sX6_thenB S v) = gX6_seedNow S := rfl
theorem eX6_hash_thenB (S : SX6) (v : Int32) : gX6_hash (sX6_thenB S v) = gX6_hash S := rfl
theorem eX6_page_fee (S : SX6) (v : Int32) : gX6_page (sX6_fee S v) = gX6_page S := rfl
theorem eX6_pageMany_fee (S : SX6) (v : Int32) : gX6_pageMany (sX6_fee S v) = gX6_pageMany S := rfl
theorem eX6_left_fee (S : SX6) (v : Int32) : gX6_left (sX6_fee S v) = gX6_left S := rfl
theorem eX6_right_fee (S : SX6) (v : Int32) : gX6_right (sX6_fee S v) = gX6_right S := rfl
theorem eX6_above_fee (S : SX6) (v : Int32) : gX6_above (sX6_fee S v) = gX6_above S := rfl
theorem eX6_there_fee (S : SX6) (v : Int32) : gX6_there (sX6_fee S v) = gX6_there S := rfl
theorem eX6_root_fee (S : SX6) (v : Int32) : gX6_root (sX6_fee S v) = gX6_root S := rfl
theorem eX6_many_fee (S : SX6) (v : Int32) : gX6_many (sX6_fee S v) = gX6_many S := rfl
theorem eX6_most_fee (S : SX6) (v : Int32) : gX6_most (sX6_fee S v) = gX6_most S := rfl
theorem eX6_builtNow_fee (S : SX6) (v : Int32) : gX6_builtNow (sX6_fee S v) = gX6_builtNow S := rfl
theorem eX6_built_fee (S : SX6) (v : Int32) : gX6_built (sX6_fee S v) = gX6_built S := rfl
theorem eX6_cost_fee (S : SX6) (v : Int32) : gX6_cost (sX6_fee S v) = gX6_cost S := rfl
theorem eX6_kinds_fee (S : SX6) (v : Int32) : gX6_kinds (sX6_fee S v) = gX6_kinds S := rfl
theorem eX6_values_fee (S : SX6) (v : Int32) : gX6_values (sX6_fee S v) = gX6_values S := rfl
theorem eX6_ratioA_fee (S : SX6) (v : Int32) : gX6_ratioA (sX6_fee S v) = gX6_ratioA S := rfl
theorem eX6_ratioB_fee (S : SX6) (v : Int32) : gX6_ratioB (sX6_fee S v) = gX6_ratioB S := rfl
theorem eX6_thenA_fee (S : SX6) (v : Int32) : gX6_thenA (sX6_fee S v) = gX6_thenA S := rfl
theorem eX6_thenB_fee (S : SX6) (v : Int32) : gX6_thenB (sX6_fee S v) = gX6_thenB S := rfl
theorem eX6_fee_fee (S : SX6) (v : Int32) : gX6_fee (sX6_fee S v) = v := rfl
theorem eX6_credit_fee (S : SX6) (v : Int32) : gX6_credit (sX6_fee S v) = gX6_credit S := rfl
theorem eX6_lowest_fee (S : SX6) (v : Int32) : gX6_lowest (sX6_fee S v) = gX6_lowest S := rfl
theorem eX6_log_fee (S : SX6) (v : Int32) : gX6_log (sX6_fee S v) = gX6_log S := rfl
theorem eX6_logMany_fee (S : SX6) (v : Int32) : gX6_logMany (sX6_fee S v) = gX6_logMany S := rfl
theorem eX6_shelvesRead_fee (S : SX6) (v : Int32) : gX6_shelvesRead (sX6_fee S v) = gX6_shelvesRead S := rfl
theorem eX6_row_fee (S : SX6) (v : Int32) : gX6_row (sX6_fee S v) = gX6_row S := rfl
theorem eX6_spanLow_fee (S : SX6) (v : Int32) : gX6_spanLow (sX6_fee S v) = gX6_spanLow S := rfl
theorem eX6_spanHigh_fee (S : SX6) (v : Int32) : gX6_spanHigh (sX6_fee S v) = gX6_spanHigh S := rfl
theorem eX6_spanOn_fee (S : SX6) (v : Int32) : gX6_spanOn (sX6_fee S v) = gX6_spanOn S := rfl
theorem eX6_seenMany_fee (S : SX6) (v : Int32) : gX6_seenMany (sX6_fee S v) = gX6_seenMany S := rfl
theorem eX6_sights_fee (S : SX6) (v : Int32) : gX6_sights (sX6_fee S v) = gX6_sights S := rfl
theorem eX6_seedNow_fee (S : SX6) (v : Int32) : gX6_seedNow (sX6_fee S v) = gX6_seedNow S := rfl
theorem eX6_hash_fee (S : SX6) (v : Int32) : gX6_hash (sX6_fee S v) = gX6_hash S := rfl
theorem eX6_page_credit (S : SX6) (v : Int32) : gX6_page (sX6_credit S v) = gX6_page S := rfl
theorem eX6_pageMany_credit (S : SX6) (v : Int32) : gX6_pageMany (sX6_credit S v) = gX6_pageMany S := rfl
theorem eX6_left_credit (S : SX6) (v : Int32) : gX6_left (sX6_credit S v) = gX6_left S := rfl
theorem eX6_right_credit (S : SX6) (v : Int32) : gX6_right (sX6_credit S v) = gX6_right S := rfl
theorem eX6_above_credit (S : SX6) (v : Int32) : gX6_above (sX6_credit S v) = gX6_above S := rfl
theorem eX6_there_credit (S : SX6) (v : Int32) : gX6_there (sX6_credit S v) = gX6_there S := rfl
theorem eX6_root_credit (S : SX6) (v : Int32) : gX6_root (sX6_credit S v) = gX6_root S := rfl
theorem eX6_many_credit (S : SX6) (v : Int32) : gX6_many (sX6_credit S v) = gX6_many S := rfl
theorem eX6_most_credit (S : SX6) (v : Int32) : gX6_most (sX6_credit S v) = gX6_most S := rfl
theorem eX6_builtNow_credit (S : SX6) (v : Int32) : gX6_builtNow (sX6_credit S v) = gX6_builtNow S := rfl
theorem eX6_built_credit (S : SX6) (v : Int32) : gX6_built (sX6_credit S v) = gX6_built S := rfl
theorem eX6_cost_credit (S : SX6) (v : Int32) : gX6_cost (sX6_credit S v) = gX6_cost S := rfl
theorem eX6_kinds_credit (S : SX6) (v : Int32) : gX6_kinds (sX6_credit S v) = gX6_kinds S := rfl
theorem eX6_values_credit (S : SX6) (v : Int32) : gX6_values (sX6_credit S v) = gX6_values S := rfl
theorem eX6_ratioA_credit (S : SX6) (v : Int32) : gX6_ratioA (sX6_credit S v) = gX6_ratioA S := rfl
theorem eX6_ratioB_credit (S : SX6) (v : Int32) : gX6_ratioB (sX6_credit S v) = gX6_ratioB S := rfl
theorem eX6_thenA_credit (S : SX6) (v : Int32) : gX6_thenA (sX6_credit S v) = gX6_thenA S := rfl
theorem eX6_thenB_credit (S : SX6) (v : Int32) : gX6_thenB (sX6_credit S v) = gX6_thenB S := rfl
theorem eX6_fee_credit (S : SX6) (v : Int32) : gX6_fee (sX6_credit S v) = gX6_fee S := rfl
theorem eX6_credit_credit (S : SX6) (v : Int32) : gX6_credit (sX6_credit S v) = v := rfl
theorem eX6_lowest_credit (S : SX6) (v : Int32) : gX6_lowest (sX6_credit S v) = gX6_lowest S := rfl
theorem eX6_log_credit (S : SX6) (v : Int32) : gX6_log (sX6_credit S v) = gX6_log S := rfl
theorem eX6_logMany_credit (S : SX6) (v : Int32) : gX6_logMany (sX6_credit S v) = gX6_logMany S := rfl
theorem eX6_shelvesRead_credit (S : SX6) (v : Int32) : gX6_shelvesRead (sX6_credit S v) = gX6_shelvesRead S := rfl
theorem eX6_row_credit (S : SX6) (v : Int32) : gX6_row (sX6_credit S v) = gX6_row S := rfl
theorem eX6_spanLow_credit (S : SX6) (v : Int32) : gX6_spanLow (sX6_credit S v) = gX6_spanLow S := rfl
theorem eX6_spanHigh_credit (S : SX6) (v : Int32) : gX6_spanHigh (sX6_credit S v) = gX6_spanHigh S := rfl
theorem eX6_spanOn_credit (S : SX6) (v : Int32) : gX6_spanOn (sX6_credit S v) = gX6_spanOn S := rfl
theorem eX6_seenMany_credit (S : SX6) (v : Int32) : gX6_seenMany (sX6_credit S v) = gX6_seenMany S := rfl
theorem eX6_sights_credit (S : SX6) (v : Int32) : gX6_sights (sX6_credit S v) = gX6_sights S := rfl
theorem eX6_seedNow_credit (S : SX6) (v : Int32) : gX6_seedNow (sX6_credit S v) = gX6_seedNow S := rfl
theorem eX6_hash_credit (S : SX6) (v : Int32) : gX6_hash (sX6_credit S v) = gX6_hash S := rfl
theorem eX6_page_lowest (S : SX6) (v : Int32) : gX6_page (sX6_lowest S v) = gX6_page S := rfl
theorem eX6_pageMany_lowest (S : SX6) (v : Int32) : gX6_pageMany (sX6_lowest S v) = gX6_pageMany S := rfl
theorem eX6_left_lowest (S : SX6) (v : Int32) : gX6_left (sX6_lowest S v) = gX6_left S := rfl
theorem eX6_right_lowest (S : SX6) (v : Int32) : gX6_right (sX6_lowest S v) = gX6_right S := rfl
theorem eX6_above_lowest (S : SX6) (v : Int32) : gX6_above (sX6_lowest S v) = gX6_above S := rfl
theorem eX6_there_lowest (S : SX6) (v : Int32) : gX6_there (sX6_lowest S v) = gX6_there S := rfl
theorem eX6_root_lowest (S : SX6) (v : Int32) : gX6_root (sX6_lowest S v) = gX6_root S := rfl
theorem eX6_many_lowest (S : SX6) (v : Int32) : gX6_many (sX6_lowest S v) = gX6_many S := rfl
theorem eX6_most_lowest (S : SX6) (v : Int32) : gX6_most (sX6_lowest S v) = gX6_most S := rfl
theorem eX6_builtNow_lowest (S : SX6) (v : Int32) : gX6_builtNow (sX6_lowest S v) = gX6_builtNow S := rfl
theorem eX6_built_lowest (S : SX6) (v : Int32) : gX6_built (sX6_lowest S v) = gX6_built S := rfl
theorem eX6_cost_lowest (S : SX6) (v : Int32) : gX6_cost (sX6_lowest S v) = gX6_cost S := rfl
theorem eX6_kinds_lowest (S : SX6) (v : Int32) : gX6_kinds (sX6_lowest S v) = gX6_kinds S := rfl
theorem eX6_values_lowest (S : SX6) (v : Int32) : gX6_values (sX6_lowest S v) = gX6_values S := rfl
theorem eX6_ratioA_lowest (S : SX6) (v : Int32) : gX6_ratioA (sX6_lowest S v) = gX6_ratioA S := rfl
theorem eX6_ratioB_lowest (S : SX6) (v : Int32) : gX6_ratioB (sX6_lowest S v) = gX6_ratioB S := rfl
theorem eX6_thenA_lowest (S : SX6) (v : Int32) : gX6_thenA (sX6_lowest S v) = gX6_thenA S := rfl
theorem eX6_thenB_lowest (S : SX6) (v : Int32) : gX6_thenB (sX6_lowest S v) = gX6_thenB S := rfl
theorem eX6_fee_lowest (S : SX6) (v : Int32) : gX6_fee (sX6_lowest S v) = gX6_fee S := rfl
theorem eX6_credit_lowest (S : SX6) (v : Int32) : gX6_credit (sX6_lowest S v) = gX6_credit S := rfl
theorem eX6_lowest_lowest (S : SX6) (v : Int32) : gX6_lowest (sX6_lowest S v) = v := rfl
theorem eX6_log_lowest (S : SX6) (v : Int32) : gX6_log (sX6_lowest S v) = gX6_log S := rfl
theorem eX6_logMany_lowest (S : SX6) (v : Int32) : gX6_logMany (sX6_lowest S v) = gX6_logMany S := rfl
theorem eX6_shelvesRead_lowest (S : SX6) (v : Int32) : gX6_shelvesRead (sX6_lowest S v) = gX6_shelvesRead S := rfl
theorem eX6_row_lowest (S : SX6) (v : Int32) : gX6_row (sX6_lowest S v) = gX6_row S := rfl
theorem eX6_spanLow_lowest (S : SX6) (v : Int32) : gX6_spanLow (sX6_lowest S v) = gX6_spanLow S := rfl
theorem eX6_spanHigh_lowest (S : SX6) (v : Int32) : gX6_spanHigh (sX6_lowest S v) = gX6_spanHigh S := rfl
theorem eX6_spanOn_lowest (S : SX6) (v : Int32) : gX6_spanOn (sX6_lowest S v) = gX6_spanOn S := rfl
theorem eX6_seenMany_lowest (S : SX6) (v : Int32) : gX6_seenMany (sX6_lowest S v) = gX6_seenMany S := rfl
theorem eX6_sights_lowest (S : SX6) (v : Int32) : gX6_sights (sX6_lowest S v) = gX6_sights S := rfl
theorem eX6_seedNow_lowest (S : SX6) (v : Int32) : gX6_seedNow (sX6_lowest S v) = gX6_seedNow S := rfl
theorem eX6_hash_lowest (S : SX6) (v : Int32) : gX6_hash (sX6_lowest S v) = gX6_hash S := rfl
theorem eX6_page_log (S : SX6) (v : (Nat → Int32)) : gX6_page (sX6_log S v) = gX6_page S := rfl
theorem eX6_pageMany_log (S : SX6) (v : (Nat → Int32)) : gX6_pageMany (sX6_log S v) = gX6_pageMany S := rfl
theorem eX6_left_log (S : SX6) (v : (Nat → Int32)) : gX6_left (sX6_log S v) = gX6_left S := rfl
theorem eX6_right_log (S : SX6) (v : (Nat → Int32)) : gX6_right (sX6_log S v) = gX6_right S := rfl
theorem eX6_above_log (S : SX6) (v : (Nat → Int32)) : gX6_above (sX6_log S v) = gX6_above S := rfl
theorem eX6_there_log (S : SX6) (v : (Nat → Int32)) : gX6_there (sX6_log S v) = gX6_there S := rfl
theorem eX6_root_log (S : SX6) (v : (Nat → Int32)) : gX6_root (sX6_log S v) = gX6_root S := rfl
theorem eX6_many_log (S : SX6) (v : (Nat → Int32)) : gX6_many (sX6_log S v) = gX6_many S := rfl
theorem eX6_most_log (S : SX6) (v : (Nat → Int32)) : gX6_most (sX6_log S v) = gX6_most S := rfl
theorem eX6_builtNow_log (S : SX6) (v : (Nat → Int32)) : gX6_builtNow (sX6_log S v) = gX6_builtNow S := rfl
theorem eX6_built_log (S : SX6) (v : (Nat → Int32)) : gX6_built (sX6_log S v) = gX6_built S := rfl
theorem eX6_cost_log (S : SX6) (v : (Nat → Int32)) : gX6_cost (sX6_log S v) = gX6_cost S := rfl
theorem eX6_kinds_log (S : SX6) (v : (Nat → Int32)) : gX6_kinds (sX6_log S v) = gX6_kinds S := rfl
theorem eX6_values_log (S : SX6) (v : (Nat → Int32)) : gX6_values (sX6_log S v) = gX6_values S := rfl
theorem eX6_ratioA_log (S : SX6) (v : (Nat → Int32)) : gX6_ratioA (sX6_log S v) = gX6_ratioA S := rfl
theorem eX6_ratioB_log (S : SX6) (v : (Nat → Int32)) : gX6_ratioB (sX6_log S v) = gX6_ratioB S := rfl
theorem eX6_thenA_log (S : SX6) (v : (Nat → Int32)) : gX6_thenA (sX6_log S v) = gX6_thenA S := rfl
theorem eX6_thenB_log (S : SX6) (v : (Nat → Int32)) : gX6_thenB (sX6_log S v) = gX6_thenB S := rfl
theorem eX6_fee_log (S : SX6) (v : (Nat → Int32)) : gX6_fee (sX6_log S v) = gX6_fee S := rfl
theorem eX6_credit_log (S : SX6) (v : (Nat → Int32)) : gX6_credit (sX6_log S v) = gX6_credit S := rfl
theorem eX6_lowest_log (S : SX6) (v : (Nat → Int32)) : gX6_lowest (sX6_log S v) = gX6_lowest S := rfl
theorem eX6_log_log (S : SX6) (v : (Nat → Int32)) : gX6_log (sX6_log S v) = v := rfl
theorem eX6_logMany_log (S : SX6) (v : (Nat → Int32)) : gX6_logMany (sX6_log S v) = gX6_logMany S := rfl
theorem eX6_shelvesRead_log (S : SX6) (v : (Nat → Int32)) : gX6_shelvesRead (sX6_log S v) = gX6_shelvesRead S := rfl
theorem eX6_row_log (S : SX6) (v : (Nat → Int32)) : gX6_row (sX6_log S v) = gX6_row S := rfl
theorem eX6_spanLow_log (S : SX6) (v : (Nat → Int32)) : gX6_spanLow (sX6_log S v) = gX6_spanLow S := rfl
theorem eX6_spanHigh_log (S : SX6) (v : (Nat → Int32)) : gX6_spanHigh (sX6_log S v) = gX6_spanHigh S := rfl
theorem eX6_spanOn_log (S : SX6) (v : (Nat → Int32)) : gX6_spanOn (sX6_log S v) = gX6_spanOn S := rfl
theorem eX6_seenMany_log (S : SX6) (v : (Nat → Int32)) : gX6_seenMany (sX6_log S v) = gX6_seenMany S := rfl
theorem eX6_sights_log (S : SX6) (v : (Nat → Int32)) : gX6_sights (sX6_log S v) = gX6_sights S := rfl
theorem eX6_seedNow_log (S : SX6) (v : (Nat → Int32)) : gX6_seedNow (sX6_log S v) = gX6_seedNow S := rfl
theorem eX6_hash_log (S : SX6) (v : (Nat → Int32)) : gX6_hash (sX6_log S v) = gX6_hash S := rfl
theorem eX6_page_logMany (S : SX6) (v : Int32) : gX6_page (sX6_logMany S v) = gX6_page S := rfl
theorem eX6_pageMany_logMany (S : SX6) (v : Int32) : gX6_pageMany (sX6_logMany S v) = gX6_pageMany S := rfl
theorem eX6_left_logMany (S : SX6) (v : Int32) : gX6_left (sX6_logMany S v) = gX6_left S := rfl
theorem eX6_right_logMany (S : SX6) (v : Int32) : gX6_right (sX6_logMany S v) = gX6_right S := rfl
theorem eX6_above_logMany (S : SX6) (v : Int32) : gX6_above (sX6_logMany S v) = gX6_above S := rfl
theorem eX6_there_logMany (S : SX6) (v : Int32) : gX6_there (sX6_logMany S v) = gX6_there S := rfl
theorem eX6_root_logMany (S : SX6) (v : Int32) : gX6_root (sX6_logMany S v) = gX6_root S := rfl
theorem eX6_many_logMany (S : SX6) (v : Int32) : gX6_many (sX6_logMany S v) = gX6_many S := rfl
theorem eX6_most_logMany (S : SX6) (v : Int32) : gX6_most (sX6_logMany S v) = gX6_most S := rfl
theorem eX6_builtNow_logMany (S : SX6) (v : Int32) : gX6_builtNow (sX6_logMany S v) = gX6_builtNow S := rfl
theorem eX6_built_logMany (S : SX6) (v : Int32) : gX6_built (sX6_logMany S v) = gX6_built S := rfl
theorem eX6_cost_logMany (S : SX6) (v : Int32) : gX6_cost (sX6_logMany S v) = gX6_cost S := rfl
theorem eX6_kinds_logMany (S : SX6) (v : Int32) : gX6_kinds (sX6_logMany S v) = gX6_kinds S := rfl
theorem eX6_values_logMany (S : SX6) (v : Int32) : gX6_values (sX6_logMany S v) = gX6_values S := rfl
theorem eX6_ratioA_logMany (S : SX6) (v : Int32) : gX6_ratioA (sX6_logMany S v) = gX6_ratioA S := rfl
theorem eX6_ratioB_logMany (S : SX6) (v : Int32) : gX6_ratioB (sX6_logMany S v) = gX6_ratioB S := rfl
theorem eX6_thenA_logMany (S : SX6) (v : Int32) : gX6_thenA (sX6_logMany S v) = gX6_thenA S := rfl
theorem eX6_thenB_logMany (S : SX6) (v : Int32) : gX6_thenB (sX6_logMany S v) = gX6_thenB S := rfl
theorem eX6_fee_logMany (S : SX6) (v : Int32) : gX6_fee (sX6_logMany S v) = gX6_fee S := rfl
theorem eX6_credit_logMany (S : SX6) (v : Int32) : gX6_credit (sX6_logMany S v) = gX6_credit S := rfl
theorem eX6_lowest_logMany (S : SX6) (v : Int32) : gX6_lowest (sX6_logMany S v) = gX6_lowest S := rfl
theorem eX6_log_logMany (S : SX6) (v : Int32) : gX6_log (sX6_logMany S v) = gX6_log S := rfl
theorem eX6_logMany_logMany (S : SX6) (v : Int32) : gX6_logMany (sX6_logMany S v) = v := rfl
theorem eX6_shelvesRead_logMany (S : SX6) (v : Int32) : gX6_shelvesRead (sX6_logMany S v) = gX6_shelvesRead S := rfl
theorem eX6_row_logMany (S : SX6) (v : Int32) : gX6_row (sX6_logMany S v) = gX6_row S := rfl
theorem eX6_spanLow_logMany (S : SX6) (v : Int32) : gX6_spanLow (sX6_logMany S v) = gX6_spanLow S := rfl
theorem eX6_spanHigh_logMany (S : SX6) (v : Int32) : gX6_spanHigh (sX6_logMany S v) = gX6_spanHigh S := rfl
theorem eX6_spanOn_logMany (S : SX6) (v : Int32) : gX6_spanOn (sX6_logMany S v) = gX6_spanOn S := rfl
theorem eX6_seenMany_logMany (S : SX6) (v : Int32) : gX6_seenMany (sX6_logMany S v) = gX6_seenMany S := rfl
theorem eX6_sights_logMany (S : SX6) (v : Int32) : gX6_sights (sX6_logMany S v) = gX6_sights S := rfl
theorem eX6_seedNow_logMany (S : SX6) (v : Int32) : gX6_seedNow (sX6_logMany S v) = gX6_seedNow S := rfl
theorem eX6_hash_logMany (S : SX6) (v : Int32) : gX6_hash (sX6_logMany S v) = gX6_hash S := rfl
theorem eX6_page_shelvesRead (S : SX6) (v : Int32) : gX6_page (sX6_shelvesRead S v) = gX6_page S := rfl
theorem eX6_pageMany_shelvesRead (S : SX6) (v : Int32) : gX6_pageMany (sX6_shelvesRead S v) = gX6_pageMany S := rfl
theorem eX6_left_shelvesRead (S : SX6) (v : Int32) : gX6_left (sX6_shelvesRead S v) = gX6_left S := rfl
theorem eX6_right_shelvesRead (S : SX6) (v : Int32) : gX6_right (sX6_shelvesRead S v) = gX6_right S := rfl
theorem eX6_above_shelvesRead (S : SX6) (v : Int32) : gX6_above (sX6_shelvesRead S v) = gX6_above S := rfl
theorem eX6_there_shelvesRead (S : SX6) (v : Int32) : gX6_there (sX6_shelvesRead S v) = gX6_there S := rfl
theorem eX6_root_shelvesRead (S : SX6) (v : Int32) : gX6_root (sX6_shelvesRead S v) = gX6_root S := rfl
theorem eX6_many_shelvesRead (S : SX6) (v : Int32) : gX6_many (sX6_shelvesRead S v) = gX6_many S := rfl
theorem eX6_most_shelvesRead (S : SX6) (v : Int32) : gX6_most (sX6_shelvesRead S v) = gX6_most S := rfl
theorem eX6_builtNow_shelvesRead (S : SX6) (v : Int32) : gX6_builtNow (sX6_shelvesRead S v) = gX6_builtNow S := rfl
theorem eX6_built_shelvesRead (S : SX6) (v : Int32) : gX6_built (sX6_shelvesRead S v) = gX6_built S := rfl
theorem eX6_cost_shelvesRead (S : SX6) (v : Int32) : gX6_cost (sX6_shelvesRead S v) = gX6_cost S := rfl
theorem eX6_kinds_shelvesRead (S : SX6) (v : Int32) : gX6_kinds (sX6_shelvesRead S v) = gX6_kinds S := rfl
theorem eX6_values_shelvesRead (S : SX6) (v : Int32) : gX6_values (sX6_shelvesRead S v) = gX6_values S := rfl
theorem eX6_ratioA_shelvesRead (S : SX6) (v : Int32) : gX6_ratioA (sX6_shelvesRead S v) = gX6_ratioA S := rfl
theorem eX6_ratioB_shelvesRead (S : SX6) (v : Int32) : gX6_ratioB (sX6_shelvesRead S v) = gX6_ratioB S := rfl
theorem eX6_thenA_shelvesRead (S : SX6) (v : Int32) : gX6_thenA (sX6_shelvesRead S v) = gX6_thenA S := rfl
theorem eX6_thenB_shelvesRead (S : SX6) (v : Int32) : gX6_thenB (sX6_shelvesRead S v) = gX6_thenB S := rfl
theorem eX6_fee_shelvesRead (S : SX6) (v : Int32) : gX6_fee (sX6_shelvesRead S v) = gX6_fee S := rfl
theorem eX6_credit_shelvesRead (S : SX6) (v : Int32) : gX6_credit (sX6_shelvesRead S v) = gX6_credit S := rfl
theorem eX6_lowest_shelvesRead (S : SX6) (v : Int32) : gX6_lowest (sX6_shelvesRead S v) = gX6_lowest S := rfl
theorem eX6_log_shelvesRead (S : SX6) (v : Int32) : gX6_log (sX6_shelvesRead S v) = gX6_log S := rfl
theorem eX6_logMany_shelvesRead (S : SX6) (v : Int32) : gX6_logMany (sX6_shelvesRead S v) = gX6_logMany S := rfl
theorem eX6_shelvesRead_shelvesRead (S : SX6) (v : Int32) : gX6_shelvesRead (sX6_shelvesRead S v) = v := rfl
theorem eX6_row_shelvesRead (S : SX6) (v : Int32) : gX6_row (sX6_shelvesRead S v) = gX6_row S := rfl
theorem eX6_spanLow_shelvesRead (S : SX6) (v : Int32) : gX6_spanLow (sX6_shelvesRead S v) = gX6_spanLow S := rfl
theorem eX6_spanHigh_shelvesRead (S : SX6) (v : Int32) : gX6_spanHigh (sX6_shelvesRead S v) = gX6_spanHigh S := rfl
theorem eX6_spanOn_shelvesRead (S : SX6) (v : Int32) : gX6_spanOn (sX6_shelvesRead S v) = gX6_spanOn S := rfl
theorem eX6_seenMany_shelvesRead (S : SX6) (v : Int32) : gX6_seenMany (sX6_shelvesRead S v) = gX6_seenMany S := rfl
theorem eX6_sights_shelvesRead (S : SX6) (v : Int32) : gX6_sights (sX6_shelvesRead S v) = gX6_sights S := rfl
theorem eX6_seedNow_shelvesRead (S : SX6) (v : Int32) : gX6_seedNow (sX6_shelvesRead S v) = gX6_seedNow S := rfl
theorem eX6_hash_shelvesRead (S : SX6) (v : Int32) : gX6_hash (sX6_shelvesRead S v) = gX6_hash S := rfl
theorem eX6_page_row (S : SX6) (v : (Nat → Int32)) : gX6_page (sX6_row S v) = gX6_page S := rfl
theorem eX6_pageMany_row (S : SX6) (v : (Nat → Int32)) : gX6_pageMany (sX6_row S v) = gX6_pageMany S := rfl
theorem eX6_left_row (S : SX6) (v : (Nat → Int32)) : gX6_left (sX6_row S v) = gX6_left S := rfl
theorem eX6_right_row (S : SX6) (v : (Nat → Int32)) : gX6_right (sX6_row S v) = gX6_right S := rfl
theorem eX6_above_row (S : SX6) (v : (Nat → Int32)) : gX6_above (sX6_row S v) = gX6_above S := rfl
theorem eX6_there_row (S : SX6) (v : (Nat → Int32)) : gX6_there (sX6_row S v) = gX6_there S := rfl
theorem eX6_root_row (S : SX6) (v : (Nat → Int32)) : gX6_root (sX6_row S v) = gX6_root S := rfl
theorem eX6_many_row (S : SX6) (v : (Nat → Int32)) : gX6_many (sX6_row S v) = gX6_many S := rfl
theorem eX6_most_row (S : SX6) (v : (Nat → Int32)) : gX6_most (sX6_row S v) = gX6_most S := rfl
theorem eX6_builtNow_row (S : SX6) (v : (Nat → Int32)) : gX6_builtNow (sX6_row S v) = gX6_builtNow S := rfl
theorem eX6_built_row (S : SX6) (v : (Nat → Int32)) : gX6_built (sX6_row S v) = gX6_built S := rfl
theorem eX6_cost_row (S : SX6) (v : (Nat → Int32)) : gX6_cost (sX6_row S v) = gX6_cost S := rfl
theorem eX6_kinds_row (S : SX6) (v : (Nat → Int32)) : gX6_kinds (sX6_row S v) = gX6_kinds S := rfl
theorem eX6_values_row (S : SX6) (v : (Nat → Int32)) : gX6_values (sX6_row S v) = gX6_values S := rfl
theorem eX6_ratioA_row (S : SX6) (v : (Nat → Int32)) : gX6_ratioA (sX6_row S v) = gX6_ratioA S := rfl
theorem eX6_ratioB_row (S : SX6) (v : (Nat → Int32)) : gX6_ratioB (sX6_row S v) = gX6_ratioB S := rfl
theorem eX6_thenA_row (S : SX6) (v : (Nat → Int32)) : gX6_thenA (sX6_row S v) = gX6_thenA S := rfl
theorem eX6_thenB_row (S : SX6) (v : (Nat → Int32)) : gX6_thenB (sX6_row S v) = gX6_thenB S := rfl
theorem eX6_fee_row (S : SX6) (v : (Nat → Int32)) : gX6_fee (sX6_row S v) = gX6_fee S := rfl
theorem eX6_credit_row (S : SX6) (v : (Nat → Int32)) : gX6_credit (sX6_row S v) = gX6_credit S := rfl
theorem eX6_lowest_row (S : SX6) (v : (Nat → Int32)) : gX6_lowest (sX6_row S v) = gX6_lowest S := rfl
theorem eX6_log_row (S : SX6) (v : (Nat → Int32)) : gX6_log (sX6_row S v) = gX6_log S := rfl
theorem eX6_logMany_row (S : SX6) (v : (Nat → Int32)) : gX6_logMany (sX6_row S v) = gX6_logMany S := rfl
theorem eX6_shelvesRead_row (S : SX6) (v : (Nat → Int32)) : gX6_shelvesRead (sX6_row S v) = gX6_shelvesRead S := rfl
theorem eX6_row_row (S : SX6) (v : (Nat → Int32)) : gX6_row (sX6_row S v) = v := rfl
theorem eX6_spanLow_row (S : SX6) (v : (Nat → Int32)) : gX6_spanLow (sX6_row S v) = gX6_spanLow S := rfl
theorem eX6_spanHigh_row (S : SX6) (v : (Nat → Int32)) : gX6_spanHigh (sX6_row S v) = gX6_spanHigh S := rfl
theorem eX6_spanOn_row (S : SX6) (v : (Nat → Int32)) : gX6_spanOn (sX6_row S v) = gX6_spanOn S := rfl
theorem eX6_seenMany_row (S : SX6) (v : (Nat → Int32)) : gX6_seenMany (sX6_row S v) = gX6_seenMany S := rfl
theorem eX6_sights_row (S : SX6) (v : (Nat → Int32)) : gX6_sights (sX6_row S v) = gX6_sights S := rfl
theorem eX6_seedNow_row (S : SX6) (v : (Nat → Int32)) : gX6_seedNow (sX6_row S v) = gX6_seedNow S := rfl
theorem eX6_hash_row (S : SX6) (v : (Nat → Int32)) : gX6_hash (sX6_row S v) = gX6_hash S := rfl
theorem eX6_page_spanLow (S : SX6) (v : (Nat → Int32)) : gX6_page (sX6_spanLow S v) = gX6_page S := rfl
theorem eX6_pageMany_spanLow (S : SX6) (v : (Nat → Int32)) : gX6_pageMany (sX6_spanLow S v) = gX6_pageMany S := rfl
theorem eX6_left_spanLow (S : SX6) (v : (Nat → Int32)) : gX6_left (sX6_spanLow S v) = gX6_left S := rfl
theorem eX6_right_spanLow (S : SX6) (v : (Nat → Int32)) : gX6_right (sX6_spanLow S v) = gX6_right S := rfl
theorem eX6_above_spanLow (S : SX6) (v : (Nat → Int32)) : gX6_above (sX6_spanLow S v) = gX6_above S := rfl
theorem eX6_there_spanLow (S : SX6) (v : (Nat → Int32)) : gX6_there (sX6_spanLow S v) = gX6_there S := rfl
theorem eX6_root_spanLow (S : SX6) (v : (Nat → Int32)) : gX6_root (sX6_spanLow S v) = gX6_root S := rfl
theorem eX6_many_spanLow (S : SX6) (v : (Nat → Int32)) : gX6_many (sX6_spanLow S v) = gX6_many S := rfl
theorem eX6_most_spanLow (S : SX6) (v : (Nat → Int32)) : gX6_most (sX6_spanLow S v) = gX6_most S := rfl
theorem eX6_builtNow_spanLow (S : SX6) (v : (Nat → Int32)) : gX6_builtNow (sX6_spanLow S v) = gX6_builtNow S := rfl
theorem eX6_built_spanLow (S : SX6) (v : (Nat → Int32)) : gX6_built (sX6_spanLow S v) = gX6_built S := rfl
theorem eX6_cost_spanLow (S : SX6) (v : (Nat → Int32)) : gX6_cost (sX6_spanLow S v) = gX6_cost S := rfl
theorem eX6_kinds_spanLow (S : SX6) (v : (Nat → Int32)) : gX6_kinds (sX6_spanLow S v) = gX6_kinds S := rfl
theorem eX6_values_spanLow (S : SX6) (v : (Nat → Int32)) : gX6_values (sX6_spanLow S v) = gX6_values S := rfl
theorem eX6_ratioA_spanLow (S : SX6) (v : (Nat → Int32)) : gX6_ratioA (sX6_spanLow S v) = gX6_ratioA S := rfl
theorem eX6_ratioB_spanLow (S : SX6) (v : (Nat → Int32)) : gX6_ratioB (sX6_spanLow S v) = gX6_ratioB S := rfl
theorem eX6_thenA_spanLow (S : SX6) (v : (Nat → Int32)) : gX6_thenA (sX6_spanLow S v) = gX6_thenA S := rfl
theorem eX6_thenB_spanLow (S : SX6) (v : (Nat → Int32)) : gX6_thenB (sX6_spanLow S v) = gX6_thenB S := rfl
theorem eX6_fee_spanLow (S : SX6) (v : (Nat → Int32)) : gX6_fee (sX6_spanLow S v) = gX6_fee S := rfl
theorem eX6_credit_spanLow (S : SX6) (v : (Nat → Int32)) : gX6_credit (sX6_spanLow S v) = gX6_credit S := rfl
theorem eX6_lowest_spanLow (S : SX6) (v : (Nat → Int32)) : gX6_lowest (sX6_spanLow S v) = gX6_lowest S := rfl
theorem eX6_log_spanLow (S : SX6) (v : (Nat → Int32)) : gX6_log (sX6_spanLow S v) = gX6_log S := rfl
theorem eX6_logMany_spanLow (S : SX6) (v : (Nat → Int32)) : gX6_logMany (sX6_spanLow S v) = gX6_logMany S := rfl
theorem eX6_shelvesRead_spanLow (S : SX6) (v : (Nat → Int32)) : gX6_shelvesRead (sX6_spanLow S v) = gX6_shelvesRead S := rfl
theorem eX6_row_spanLow (S : SX6) (v : (Nat → Int32)) : gX6_row (sX6_spanLow S v) = gX6_row S := rfl
theorem eX6_spanLow_spanLow (S : SX6) (v : (Nat → Int32)) : gX6_spanLow (sX6_spanLow S v) = v := rfl
theorem eX6_spanHigh_spanLow (S : SX6) (v : (Nat → Int32)) : gX6_spanHigh (sX6_spanLow S v) = gX6_spanHigh S := rfl
theorem eX6_spanOn_spanLow (S : SX6) (v : (Nat → Int32)) : gX6_spanOn (sX6_spanLow S v) = gX6_spanOn S := rfl
theorem eX6_seenMany_spanLow (S : SX6) (v : (Nat → Int32)) : gX6_seenMany (sX6_spanLow S v) = gX6_seenMany S := rfl
theorem eX6_sights_spanLow (S : SX6) (v : (Nat → Int32)) : gX6_sights (sX6_spanLow S v) = gX6_sights S := rfl
theorem eX6_seedNow_spanLow (S : SX6) (v : (Nat → Int32)) : gX6_seedNow (sX6_spanLow S v) = gX6_seedNow S := rfl
theorem eX6_hash_spanLow (S : SX6) (v : (Nat → Int32)) : gX6_hash (sX6_spanLow S v) = gX6_hash S := rfl
theorem eX6_page_spanHigh (S : SX6) (v : (Nat → Int32)) : gX6_page (sX6_spanHigh S v) = gX6_page S := rfl
theorem eX6_pageMany_spanHigh (S : SX6) (v : (Nat → Int32)) : gX6_pageMany (sX6_spanHigh S v) = gX6_pageMany S := rfl
theorem eX6_left_spanHigh (S : SX6) (v : (Nat → Int32)) : gX6_left (sX6_spanHigh S v) = gX6_left S := rfl
theorem eX6_right_spanHigh (S : SX6) (v : (Nat → Int32)) : gX6_right (sX6_spanHigh S v) = gX6_right S := rfl
theorem eX6_above_spanHigh (S : SX6) (v : (Nat → Int32)) : gX6_above (sX6_spanHigh S v) = gX6_above S := rfl
theorem eX6_there_spanHigh (S : SX6) (v : (Nat → Int32)) : gX6_there (sX6_spanHigh S v) = gX6_there S := rfl
theorem eX6_root_spanHigh (S : SX6) (v : (Nat → Int32)) : gX6_root (sX6_spanHigh S v) = gX6_root S := rfl
theorem eX6_many_spanHigh (S : SX6) (v : (Nat → Int32)) : gX6_many (sX6_spanHigh S v) = gX6_many S := rfl
theorem eX6_most_spanHigh (S : SX6) (v : (Nat → Int32)) : gX6_most (sX6_spanHigh S v) = gX6_most S := rfl
theorem eX6_builtNow_spanHigh (S : SX6) (v : (Nat → Int32)) : gX6_builtNow (sX6_spanHigh S v) = gX6_builtNow S := rfl
theorem eX6_built_spanHigh (S : SX6) (v : (Nat → Int32)) : gX6_built (sX6_spanHigh S v) = gX6_built S := rfl
theorem eX6_cost_spanHigh (S : SX6) (v : (Nat → Int32)) : gX6_cost (sX6_spanHigh S v) = gX6_cost S := rfl
theorem eX6_kinds_spanHigh (S : SX6) (v : (Nat → Int32)) : gX6_kinds (sX6_spanHigh S v) = gX6_kinds S := rfl
theorem eX6_values_spanHigh (S : SX6) (v : (Nat → Int32)) : gX6_values (sX6_spanHigh S v) = gX6_values S := rfl
theorem eX6_ratioA_spanHigh (S : SX6) (v : (Nat → Int32)) : gX6_ratioA (sX6_spanHigh S v) = gX6_ratioA S := rfl
theorem eX6_ratioB_spanHigh (S : SX6) (v : (Nat → Int32)) : gX6_ratioB (sX6_spanHigh S v) = gX6_ratioB S := rfl
theorem eX6_thenA_spanHigh (S : SX6) (v : (Nat → Int32)) : gX6_thenA (sX6_spanHigh S v) = gX6_thenA S := rfl
theorem eX6_thenB_spanHigh (S : SX6) (v : (Nat → Int32)) : gX6_thenB (sX6_spanHigh S v) = gX6_thenB S := rfl
theorem eX6_fee_spanHigh (S : SX6) (v : (Nat → Int32)) : gX6_fee (sX6_spanHigh S v) = gX6_fee S := rfl
theorem eX6_credit_spanHigh (S : SX6) (v : (Nat → Int32)) : gX6_credit (sX6_spanHigh S v) = gX6_credit S := rfl
theorem eX6_lowest_spanHigh (S : SX6) (v : (Nat → Int32)) : gX6_lowest (sX6_spanHigh S v) = gX6_lowest S := rfl
theorem eX6_log_spanHigh (S : SX6) (v : (Nat → Int32)) : gX6_log (sX6_spanHigh S v) = gX6_log S := rfl
theorem eX6_logMany_spanHigh (S : SX6) (v : (Nat → Int32)) : gX6_logMany (sX6_spanHigh S v) = gX6_logMany S := rfl
theorem eX6_shelvesRead_spanHigh (S : SX6) (v : (Nat → Int32)) : gX6_shelvesRead (sX6_spanHigh S v) = gX6_shelvesRead S := rfl
theorem eX6_row_spanHigh (S : SX6) (v : (Nat → Int32)) : gX6_row (sX6_spanHigh S v) = gX6_row S := rfl
theorem eX6_spanLow_spanHigh (S : SX6) (v : (Nat → Int32)) : gX6_spanLow (sX6_spanHigh S v) = gX6_spanLow S := rfl
theorem eX6_spanHigh_spanHigh (S : SX6) (v : (Nat → Int32)) : gX6_spanHigh (sX6_spanHigh S v) = v := rfl
theorem eX6_spanOn_spanHigh (S : SX6) (v : (Nat → Int32)) : gX6_spanOn (sX6_spanHigh S v) = gX6_spanOn S := rfl
theorem eX6_seenMany_spanHigh (S : SX6) (v : (Nat → Int32)) : gX6_seenMany (sX6_spanHigh S v) = gX6_seenMany S := rfl
theorem eX6_sights_spanHigh (S : SX6) (v : (Nat → Int32)) : gX6_sights (sX6_spanHigh S v) = gX6_sights S := rfl
theorem eX6_seedNow_spanHigh (S : SX6) (v : (Nat → Int32)) : gX6_seedNow (sX6_spanHigh S v) = gX6_seedNow S := rfl
theorem eX6_hash_spanHigh (S : SX6) (v : (Nat → Int32)) : gX6_hash (sX6_spanHigh S v) = gX6_hash S := rfl
theorem eX6_page_spanOn (S : SX6) (v : (Nat → Int32)) : gX6_page (sX6_spanOn S v) = gX6_page S := rfl
theorem eX6_pageMany_spanOn (S : SX6) (v : (Nat → Int32)) : gX6_pageMany (sX6_spanOn S v) = gX6_pageMany S := rfl
theorem eX6_left_spanOn (S : SX6) (v : (Nat → Int32)) : gX6_left (sX6_spanOn S v) = gX6_left S := rfl
theorem eX6_right_spanOn (S : SX6) (v : (Nat → Int32)) : gX6_right (sX6_spanOn S v) = gX6_right S := rfl
theorem eX6_above_spanOn (S : SX6) (v : (Nat → Int32)) : gX6_above (sX6_spanOn S v) = gX6_above S := rfl
theorem eX6_there_spanOn (S : SX6) (v : (Nat → Int32)) : gX6_there (sX6_spanOn S v) = gX6_there S := rfl
theorem eX6_root_spanOn (S : SX6) (v : (Nat → Int32)) : gX6_root (sX6_spanOn S v) = gX6_root S := rfl
theorem eX6_many_spanOn (S : SX6) (v : (Nat → Int32)) : gX6_many (sX6_spanOn S v) = gX6_many S := rfl
theorem eX6_most_spanOn (S : SX6) (v : (Nat → Int32)) : gX6_most (sX6_spanOn S v) = gX6_most S := rfl
theorem eX6_builtNow_spanOn (S : SX6) (v : (Nat → Int32)) : gX6_builtNow (sX6_spanOn S v) = gX6_builtNow S := rfl
theorem eX6_built_spanOn (S : SX6) (v : (Nat → Int32)) : gX6_built (sX6_spanOn S v) = gX6_built S := rfl
theorem eX6_cost_spanOn (S : SX6) (v : (Nat → Int32)) : gX6_cost (sX6_spanOn S v) = gX6_cost S := rfl
theorem eX6_kinds_spanOn (S : SX6) (v : (Nat → Int32)) : gX6_kinds (sX6_spanOn S v) = gX6_kinds S := rfl
theorem eX6_values_spanOn (S : SX6) (v : (Nat → Int32)) : gX6_values (sX6_spanOn S v) = gX6_values S := rfl
theorem eX6_ratioA_spanOn (S : SX6) (v : (Nat → Int32)) : gX6_ratioA (sX6_spanOn S v) = gX6_ratioA S := rfl
theorem eX6_ratioB_spanOn (S : SX6) (v : (Nat → Int32)) : gX6_ratioB (sX6_spanOn S v) = gX6_ratioB S := rfl
theorem eX6_thenA_spanOn (S : SX6) (v : (Nat → Int32)) : gX6_thenA (sX6_spanOn S v) = gX6_thenA S := rfl
theorem eX6_thenB_spanOn (S : SX6) (v : (Nat → Int32)) : gX6_thenB (sX6_spanOn S v) = gX6_thenB S := rfl
theorem eX6_fee_spanOn (S : SX6) (v : (Nat → Int32)) : gX6_fee (sX6_spanOn S v) = gX6_fee S := rfl
theorem eX6_credit_spanOn (S : SX6) (v : (Nat → Int32)) : gX6_credit (sX6_spanOn S v) = gX6_credit S := rfl
theorem eX6_lowest_spanOn (S : SX6) (v : (Nat → Int32)) : gX6_lowest (sX6_spanOn S v) = gX6_lowest S := rfl
theorem eX6_log_spanOn (S : SX6) (v : (Nat → Int32)) : gX6_log (sX6_spanOn S v) = gX6_log S := rfl
theorem eX6_logMany_spanOn (S : SX6) (v : (Nat → Int32)) : gX6_logMany (sX6_spanOn S v) = gX6_logMany S := rfl
theorem eX6_shelvesRead_spanOn (S : SX6) (v : (Nat → Int32)) : gX6_shelvesRead (sX6_spanOn S v) = gX6_shelvesRead S := rfl
theorem eX6_row_spanOn (S : SX6) (v : (Nat → Int32)) : gX6_row (sX6_spanOn S v) = gX6_row S := rfl
theorem eX6_spanLow_spanOn (S : SX6) (v : (Nat → Int32)) : gX6_spanLow (sX6_spanOn S v) = gX6_spanLow S := rfl
theorem eX6_spanHigh_spanOn (S : SX6) (v : (Nat → Int32)) : gX6_spanHigh (sX6_spanOn S v) = gX6_spanHigh S := rfl
theorem eX6_spanOn_spanOn (S : SX6) (v : (Nat → Int32)) : gX6_spanOn (sX6_spanOn S v) = v := rfl
theorem eX6_seenMany_spanOn (S : SX6) (v : (Nat → Int32)) : gX6_seenMany (sX6_spanOn S v) = gX6_seenMany S := rfl
theorem eX6_sights_spanOn (S : SX6) (v : (Nat → Int32)) : gX6_sights (sX6_spanOn S v) = gX6_sights S := rfl
theorem eX6_seedNow_spanOn (S : SX6) (v : (Nat → Int32)) : gX6_seedNow (sX6_spanOn S v) = gX6_seedNow S := rfl
theorem eX6_hash_spanOn (S : SX6) (v : (Nat → Int32)) : gX6_hash (sX6_spanOn S v) = gX6_hash S := rfl
theorem eX6_page_seenMany (S : SX6) (v : Int32) : gX6_page (sX6_seenMany S v) = gX6_page S := rfl
theorem eX6_pageMany_seenMany (S : SX6) (v : Int32) : gX6_pageMany (sX6_seenMany S v) = gX6_pageMany S := rfl
theorem eX6_left_seenMany (S : SX6) (v : Int32) : gX6_left (sX6_seenMany S v) = gX6_left S := rfl
theorem eX6_right_seenMany (S : SX6) (v : Int32) : gX6_right (sX6_seenMany S v) = gX6_right S := rfl
theorem eX6_above_seenMany (S : SX6) (v : Int32) : gX6_above (sX6_seenMany S v) = gX6_above S := rfl
theorem eX6_there_seenMany (S : SX6) (v : Int32) : gX6_there (sX6_seenMany S v) = gX6_there S := rfl
theorem eX6_root_seenMany (S : SX6) (v : Int32) : gX6_root (sX6_seenMany S v) = gX6_root S := rfl
theorem eX6_many_seenMany (S : SX6) (v : Int32) : gX6_many (sX6_seenMany S v) = gX6_many S := rfl
theorem eX6_most_seenMany (S : SX6) (v : Int32) : gX6_most (sX6_seenMany S v) = gX6_most S := rfl
theorem eX6_builtNow_seenMany (S : SX6) (v : Int32) : gX6_builtNow (sX6_seenMany S v) = gX6_builtNow S := rfl
theorem eX6_built_seenMany (S : SX6) (v : Int32) : gX6_built (sX6_seenMany S v) = gX6_built S := rfl
theorem eX6_cost_seenMany (S : SX6) (v : Int32) : gX6_cost (sX6_seenMany S v) = gX6_cost S := rfl
theorem eX6_kinds_seenMany (S : SX6) (v : Int32) : gX6_kinds (sX6_seenMany S v) = gX6_kinds S := rfl
theorem eX6_values_seenMany (S : SX6) (v : Int32) : gX6_values (sX6_seenMany S v) = gX6_values S := rfl
theorem eX6_ratioA_seenMany (S : SX6) (v : Int32) : gX6_ratioA (sX6_seenMany S v) = gX6_ratioA S := rfl
theorem eX6_ratioB_seenMany (S : SX6) (v : Int32) : gX6_ratioB (sX6_seenMany S v) = gX6_ratioB S := rfl
theorem eX6_thenA_seenMany (S : SX6) (v : Int32) : gX6_thenA (sX6_seenMany S v) = gX6_thenA S := rfl
theorem eX6_thenB_seenMany (S : SX6) (v : Int32) : gX6_thenB (sX6_seenMany S v) = gX6_thenB S := rfl
theorem eX6_fee_seenMany (S : SX6) (v : Int32) : gX6_fee (sX6_seenMany S v) = gX6_fee S := rfl
theorem eX6_credit_seenMany (S : SX6) (v : Int32) : gX6_credit (sX6_seenMany S v) = gX6_credit S := rfl
theorem eX6_lowest_seenMany (S : SX6) (v : Int32) : gX6_lowest (sX6_seenMany S v) = gX6_lowest S := rfl
theorem eX6_log_seenMany (S : SX6) (v : Int32) : gX6_log (sX6_seenMany S v) = gX6_log S := rfl
theorem eX6_logMany_seenMany (S : SX6) (v : Int32) : gX6_logMany (sX6_seenMany S v) = gX6_logMany S := rfl
theorem eX6_shelvesRead_seenMany (S : SX6) (v : Int32) : gX6_shelvesRead (sX6_seenMany S v) = gX6_shelvesRead S := rfl
theorem eX6_row_seenMany (S : SX6) (v : Int32) : gX6_row (sX6_seenMany S v) = gX6_row S := rfl
theorem eX6_spanLow_seenMany (S : SX6) (v : Int32) : gX6_spanLow (sX6_seenMany S v) = gX6_spanLow S := rfl
theorem eX6_spanHigh_seenMany (S : SX6) (v : Int32) : gX6_spanHigh (sX6_seenMany S v) = gX6_spanHigh S := rfl
theorem eX6_spanOn_seenMany (S : SX6) (v : Int32) : gX6_spanOn (sX6_seenMany S v) = gX6_spanOn S := rfl
theorem eX6_seenMany_seenMany (S : SX6) (v : Int32) : gX6_seenMany (sX6_seenMany S v) = v := rfl
theorem eX6_sights_seenMany (S : SX6) (v : Int32) : gX6_sights (sX6_seenMany S v) = gX6_sights S := rfl
theorem eX6_seedNow_seenMany (S : SX6) (v : Int32) : gX6_seedNow (sX6_seenMany S v) = gX6_seedNow S := rfl
theorem eX6_hash_seenMany (S : SX6) (v : Int32) : gX6_hash (sX6_seenMany S v) = gX6_hash S := rfl
theorem eX6_page_sights (S : SX6) (v : (Nat → Int32)) : gX6_page (sX6_sights S v) = gX6_page S := rfl
theorem eX6_pageMany_sights (S : SX6) (v : (Nat → Int32)) : gX6_pageMany (sX6_sights S v) = gX6_pageMany S := rfl
theorem eX6_left_sights (S : SX6) (v : (Nat → Int32)) : gX6_left (sX6_sights S v) = gX6_left S := rfl
theorem eX6_right_sights (S : SX6) (v : (Nat → Int32)) : gX6_right (sX6_sights S v) = gX6_right S := rfl
theorem eX6_above_sights (S : SX6) (v : (Nat → Int32)) : gX6_above (sX6_sights S v) = gX6_above S := rfl
theorem eX6_there_sights (S : SX6) (v : (Nat → Int32)) : gX6_there (sX6_sights S v) = gX6_there S := rfl
theorem eX6_root_sights (S : SX6) (v : (Nat → Int32)) : gX6_root (sX6_sights S v) = gX6_root S := rfl
theorem eX6_many_sights (S : SX6) (v : (Nat → Int32)) : gX6_many (sX6_sights S v) = gX6_many S := rfl
theorem eX6_most_sights (S : SX6) (v : (Nat → Int32)) : gX6_most (sX6_sights S v) = gX6_most S := rfl
theorem eX6_builtNow_sights (S : SX6) (v : (Nat → Int32)) : gX6_builtNow (sX6_sights S v) = gX6_builtNow S := rfl
theorem eX6_built_sights (S : SX6) (v : (Nat → Int32)) : gX6_built (sX6_sights S v) = gX6_built S := rfl
theorem eX6_cost_sights (S : SX6) (v : (Nat → Int32)) : gX6_cost (sX6_sights S v) = gX6_cost S := rfl
theorem eX6_kinds_sights (S : SX6) (v : (Nat → Int32)) : gX6_kinds (sX6_sights S v) = gX6_kinds S := rfl
theorem eX6_values_sights (S : SX6) (v : (Nat → Int32)) : gX6_values (sX6_sights S v) = gX6_values S := rfl
theorem eX6_ratioA_sights (S : SX6) (v : (Nat → Int32)) : gX6_ratioA (sX6_sights S v) = gX6_ratioA S := rfl
theorem eX6_ratioB_sights (S : SX6) (v : (Nat → Int32)) : gX6_ratioB (sX6_sights S v) = gX6_ratioB S := rfl
theorem eX6_thenA_sights (S : SX6) (v : (Nat → Int32)) : gX6_thenA (sX6_sights S v) = gX6_thenA S := rfl
theorem eX6_thenB_sights (S : SX6) (v : (Nat → Int32)) : gX6_thenB (sX6_sights S v) = gX6_thenB S := rfl
theorem eX6_fee_sights (S : SX6) (v : (Nat → Int32)) : gX6_fee (sX6_sights S v) = gX6_fee S := rfl
theorem eX6_credit_sights (S : SX6) (v : (Nat → Int32)) : gX6_credit (sX6_sights S v) = gX6_credit S := rfl
theorem eX6_lowest_sights (S : SX6) (v : (Nat → Int32)) : gX6_lowest (sX6_sights S v) = gX6_lowest S := rfl
theorem eX6_log_sights (S : SX6) (v : (Nat → Int32)) : gX6_log (sX6_sights S v) = gX6_log S := rfl
theorem eX6_logMany_sights (S : SX6) (v : (Nat → Int32)) : gX6_logMany (sX6_sights S v) = gX6_logMany S := rfl
theorem eX6_shelvesRead_sights (S : SX6) (v : (Nat → Int32)) : gX6_shelvesRead (sX6_sights S v) = gX6_shelvesRead S := rfl
theorem eX6_row_sights (S : SX6) (v : (Nat → Int32)) : gX6_row (sX6_sights S v) = gX6_row S := rfl
theorem eX6_spanLow_sights (S : SX6) (v : (Nat → Int32)) : gX6_spanLow (sX6_sights S v) = gX6_spanLow S := rfl
theorem eX6_spanHigh_sights (S : SX6) (v : (Nat → Int32)) : gX6_spanHigh (sX6_sights S v) = gX6_spanHigh S := rfl
theorem eX6_spanOn_sights (S : SX6) (v : (Nat → Int32)) : gX6_spanOn (sX6_sights S v) = gX6_spanOn S := rfl
theorem eX6_seenMany_sights (S : SX6) (v : (Nat → Int32)) : gX6_seenMany (sX6_sights S v) = gX6_seenMany S := rfl
theorem eX6_sights_sights (S : SX6) (v : (Nat → Int32)) : gX6_sights (sX6_sights S v) = v := rfl
theorem eX6_seedNow_sights (S : SX6) (v : (Nat → Int32)) : gX6_seedNow (sX6_sights S v) = gX6_seedNow S := rfl
theorem eX6_hash_sights (S : SX6) (v : (Nat → Int32)) : gX6_hash (sX6_sights S v) = gX6_hash S := rfl
theorem eX6_page_seedNow (S : SX6) (v : Int32) : gX6_page (sX6_seedNow S v) = gX6_page S := rfl
theorem eX6_pageMany_seedNow (S : SX6) (v : Int32) : gX6_pageMany (sX6_seedNow S v) = gX6_pageMany S := rfl
theorem eX6_left_seedNow (S : SX6) (v : Int32) : gX6_left (sX6_seedNow S v) = gX6_left S := rfl
theorem eX6_right_seedNow (S : SX6) (v : Int32) : gX6_right (sX6_seedNow S v) = gX6_right S := rfl
theorem eX6_above_seedNow (S : SX6) (v : Int32) : gX6_above (sX6_seedNow S v) = gX6_above S := rfl
theorem eX6_there_seedNow (S : SX6) (v : Int32) : gX6_there (sX6_seedNow S v) = gX6_there S := rfl
theorem eX6_root_seedNow (S : SX6) (v : Int32) : gX6_root (sX6_seedNow S v) = gX6_root S := rfl
theorem eX6_many_seedNow (S : SX6) (v : Int32) : gX6_many (sX6_seedNow S v) = gX6_many S := rfl
theorem eX6_most_seedNow (S : SX6) (v : Int32) : gX6_most (sX6_seedNow S v) = gX6_most S := rfl
theorem eX6_builtNow_seedNow (S : SX6) (v : Int32) : gX6_builtNow (sX6_seedNow S v) = gX6_builtNow S := rfl
theorem eX6_built_seedNow (S : SX6) (v : Int32) : gX6_built (sX6_seedNow S v) = gX6_built S := rfl
theorem eX6_cost_seedNow (S : SX6) (v : Int32) : gX6_cost (sX6_seedNow S v) = gX6_cost S := rfl
theorem eX6_kinds_seedNow (S : SX6) (v : Int32) : gX6_kinds (sX6_seedNow S v) = gX6_kinds S := rfl
theorem eX6_values_seedNow (S : SX6) (v : Int32) : gX6_values (sX6_seedNow S v) = gX6_values S := rfl
theorem eX6_ratioA_seedNow (S : SX6) (v : Int32) : gX6_ratioA (sX6_seedNow S v) = gX6_ratioA S := rfl
theorem eX6_ratioB_seedNow (S : SX6) (v : Int32) : gX6_ratioB (sX6_seedNow S v) = gX6_ratioB S := rfl
theorem eX6_thenA_seedNow (S : SX6) (v : Int32) : gX6_thenA (sX6_seedNow S v) = gX6_thenA S := rfl
theorem eX6_thenB_seedNow (S : SX6) (v : Int32) : gX6_thenB (sX6_seedNow S v) = gX6_thenB S := rfl
theorem eX6_fee_seedNow (S : SX6) (v : Int32) : gX6_fee (sX6_seedNow S v) = gX6_fee S := rfl
theorem eX6_credit_seedNow (S : SX6) (v : Int32) : gX6_credit (sX6_seedNow S v) = gX6_credit S := rfl
theorem eX6_lowest_seedNow (S : SX6) (v : Int32) : gX6_lowest (sX6_seedNow S v) = gX6_lowest S := rfl
theorem eX6_log_seedNow (S : SX6) (v : Int32) : gX6_log (sX6_seedNow S v) = gX6_log S := rfl
theorem eX6_logMany_seedNow (S : SX6) (v : Int32) : gX6_logMany (sX6_seedNow S v) = gX6_logMany S := rfl
theorem eX6_shelvesRead_seedNow (S : SX6) (v : Int32) : gX6_shelvesRead (sX6_seedNow S v) = gX6_shelvesRead S := rfl
theorem eX6_row_seedNow (S : SX6) (v : Int32) : gX6_row (sX6_seedNow S v) = gX6_row S := rfl
theorem eX6_spanLow_seedNow (S : SX6) (v : Int32) : gX6_spanLow (sX6_seedNow S v) = gX6_spanLow S := rfl
theorem eX6_spanHigh_seedNow (S : SX6) (v : Int32) : gX6_spanHigh (sX6_seedNow S v) = gX6_spanHigh S := rfl
theorem eX6_spanOn_seedNow (S : SX6) (v : Int32) : gX6_spanOn (sX6_seedNow S v) = gX6_spanOn S := rfl
theorem eX6_seenMany_seedNow (S : SX6) (v : Int32) : gX6_seenMany (sX6_seedNow S v) = gX6_seenMany S := rfl
theorem eX6_sights_seedNow (S : SX6) (v : Int32) : gX6_sights (sX6_seedNow S v) = gX6_sights S := rfl
theorem eX6_seedNow_seedNow (S : SX6) (v : Int32) : gX6_seedNow (sX6_seedNow S v) = v := rfl
theorem eX6_hash_seedNow (S : SX6) (v : Int32) : gX6_hash (sX6_seedNow S v) = gX6_hash S := rfl
theorem eX6_page_hash (S : SX6) (v : Int64) : gX6_page (sX6_hash S v) = gX6_page S := rfl
theorem eX6_pageMany_hash (S : SX6) (v : Int64) : gX6_pageMany (sX6_hash S v) = gX6_pageMany S := rfl
theorem eX6_left_hash (S : SX6) (v : Int64) : gX6_left (sX6_hash S v) = gX6_left S := rfl
theorem eX6_right_hash (S : SX6) (v : Int64) : gX6_right (sX6_hash S v) = gX6_right S := rfl
theorem eX6_above_hash (S : SX6) (v : Int64) : gX6_above (sX6_hash S v) = gX6_above S := rfl
theorem eX6_there_hash (S : SX6) (v : Int64) : gX6_there (sX6_hash S v) = gX6_there S := rfl
theorem eX6_root_hash (S : SX6) (v : Int64) : gX6_root (sX6_hash S v) = gX6_root S := rfl
theorem eX6_many_hash (S : SX6) (v : Int64) : gX6_many (sX6_hash S v) = gX6_many S := rfl
theorem eX6_most_hash (S : SX6) (v : Int64) : gX6_most (sX6_hash S v) = gX6_most S := rfl
theorem eX6_builtNow_hash (S : SX6) (v : Int64) : gX6_builtNow (sX6_hash S v) = gX6_builtNow S := rfl
theorem eX6_built_hash (S : SX6) (v : Int64) : gX6_built (sX6_hash S v) = gX6_built S := rfl
theorem eX6_cost_hash (S : SX6) (v : Int64) : gX6_cost (sX6_hash S v) = gX6_cost S := rfl
theorem eX6_kinds_hash (S : SX6) (v : Int64) : gX6_kinds (sX6_hash S v) = gX6_kinds S := rfl
theorem eX6_values_hash (S : SX6) (v : Int64) : gX6_values (sX6_hash S v) = gX6_values S := rfl
theorem eX6_ratioA_hash (S : SX6) (v : Int64) : gX6_ratioA (sX6_hash S v) = gX6_ratioA S := rfl
theorem eX6_ratioB_hash (S : SX6) (v : Int64) : gX6_ratioB (sX6_hash S v) = gX6_ratioB S := rfl
theorem eX6_thenA_hash (S : SX6) (v : Int64) : gX6_thenA (sX6_hash S v) = gX6_thenA S := rfl
theorem eX6_thenB_hash (S : SX6) (v : Int64) : gX6_thenB (sX6_hash S v) = gX6_thenB S := rfl
theorem eX6_fee_hash (S : SX6) (v : Int64) : gX6_fee (sX6_hash S v) = gX6_fee S := rfl
theorem eX6_credit_hash (S : SX6) (v : Int64) : gX6_credit (sX6_hash S v) = gX6_credit S := rfl
theorem eX6_lowest_hash (S : SX6) (v : Int64) : gX6_lowest (sX6_hash S v) = gX6_lowest S := rfl
theorem eX6_log_hash (S : SX6) (v : Int64) : gX6_log (sX6_hash S v) = gX6_log S := rfl
theorem eX6_logMany_hash (S : SX6) (v : Int64) : gX6_logMany (sX6_hash S v) = gX6_logMany S := rfl
theorem eX6_shelvesRead_hash (S : SX6) (v : Int64) : gX6_shelvesRead (sX6_hash S v) = gX6_shelvesRead S := rfl
theorem eX6_row_hash (S : SX6) (v : Int64) : gX6_row (sX6_hash S v) = gX6_row S := rfl
theorem eX6_spanLow_hash (S : SX6) (v : Int64) : gX6_spanLow (sX6_hash S v) = gX6_spanLow S := rfl
theorem eX6_spanHigh_hash (S : SX6) (v : Int64) : gX6_spanHigh (sX6_hash S v) = gX6_spanHigh S := rfl
theorem eX6_spanOn_hash (S : SX6) (v : Int64) : gX6_spanOn (sX6_hash S v) = gX6_spanOn S := rfl
theorem eX6_seenMany_hash (S : SX6) (v : Int64) : gX6_seenMany (sX6_hash S v) = gX6_seenMany S := rfl
theorem eX6_sights_hash (S : SX6) (v : Int64) : gX6_sights (sX6_hash S v) = gX6_sights S := rfl
theorem eX6_seedNow_hash (S : SX6) (v : Int64) : gX6_seedNow (sX6_hash S v) = gX6_seedNow S := rfl
theorem eX6_hash_hash (S : SX6) (v : Int64) : gX6_hash (sX6_hash S v) = v := rfl
