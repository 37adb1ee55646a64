/-! both: IMAGE, RESTORE -/
theorem cpy_L {N : Nat} (hN : N ≤ 255) {F0 : Nat → Int32} : ∀ (m n : Nat) (c : Int) (f : Nat → Int32), 0 ≤ c → c + m = N → (∀ j : Int, 0 ≤ j → j < c → rd f j = rd F0 j) → m < n → ∃ g, fX6_copy_L2 N N F0 n (ii c) f = some g ∧ ∀ j : Int, 0 ≤ j → j < N → rd g j = rd F0 j
  | 0, n, c, f, h1, h2, h3, hn => by
    obtain ⟨n, rfl⟩ : ∃ m, n = m + 1 := ⟨n - 1, by omega⟩
    refine ⟨f, ?_, fun j a b => h3 j a (by omega)⟩
    unfold fX6_copy_L2
    rw [show Int32.ofNat N = ii N from (Int32.ofInt_eq_ofNat).symm, if_pos (p_le (by omega) (by omega) (by omega) (by omega) (by omega))]
  | m + 1, n, c, f, h1, h2, h3, hn => by
    obtain ⟨n, rfl⟩ : ∃ m, n = m + 1 := ⟨n - 1, by omega⟩
    have q1 := rd_lo F0 c
    have q2 := rd_hi F0 c
    obtain ⟨g, e1, e2⟩ := cpy_L hN (F0 := F0) m n (c + 1) (upd f (ii c).toNatClampNeg (F0 (ii c).toNatClampNeg)) (by omega) (by omega) (fun j a b => by
      rw [rd_ii F0 h1 (by omega), rd_upd f h1 (by omega) (by omega) (by omega) a]
      by_cases z : j = c
      · rw [if_pos z, z]
      · rw [if_neg z]; exact h3 j a (by omega)) (by omega)
    refine ⟨g, ?_, e2⟩
    unfold fX6_copy_L2
    have gg := ii_in (k := c) (n := N) h1 (by omega) (by omega)
    rw [show Int32.ofNat N = ii N from (Int32.ofInt_eq_ofNat).symm, if_neg (n_le (by omega) (by omega) (by omega) (by omega) (by omega)), cv_gd_pos gg, cv_gd_pos gg, cv_lt_eq, cv_lt_eq, ii_l1, ii_add]
    exact e1
theorem cpy6 {N : Nat} (hN : N ≤ 255) (F0 F1 : Nat → Int32) : ∃ g, fX6_copy N N F0 F1 = some g ∧ ∀ j : Int, 0 ≤ j → j < N → rd g j = rd F0 j := by
  obtain ⟨g, e1, e2⟩ := cpy_L hN (F0 := F0) N 256 0 F1 (by omega) (by omega) (fun j a b => by omega) (by omega)
  exact ⟨g, cv_bd_eq e1 _, e2⟩
theorem kr_left (M : SX6) : gX6_left (kr6 M) = gX6_keptLeft M := by unfold kr6; simp only [nX6_left_left, nX6_left_right, nX6_left_above, nX6_left_there, nX6_left_kinds, nX6_left_values, nX6_left_log, nX6_left_sights, nX6_left_root, nX6_left_many, nX6_left_most, nX6_left_built, nX6_left_cost, nX6_left_credit, nX6_left_lowest, nX6_left_logMany, nX6_left_seenMany]
theorem kr_right (M : SX6) : gX6_right (kr6 M) = gX6_keptRight M := by unfold kr6; simp only [nX6_right_left, nX6_right_right, nX6_right_above, nX6_right_there, nX6_right_kinds, nX6_right_values, nX6_right_log, nX6_right_sights, nX6_right_root, nX6_right_many, nX6_right_most, nX6_right_built, nX6_right_cost, nX6_right_credit, nX6_right_lowest, nX6_right_logMany, nX6_right_seenMany]
theorem kr_above (M : SX6) : gX6_above (kr6 M) = gX6_keptAbove M := by unfold kr6; simp only [nX6_above_left, nX6_above_right, nX6_above_above, nX6_above_there, nX6_above_kinds, nX6_above_values, nX6_above_log, nX6_above_sights, nX6_above_root, nX6_above_many, nX6_above_most, nX6_above_built, nX6_above_cost, nX6_above_credit, nX6_above_lowest, nX6_above_logMany, nX6_above_seenMany]
theorem kr_there (M : SX6) : gX6_there (kr6 M) = gX6_keptThere M := by unfold kr6; simp only [nX6_there_left, nX6_there_right, nX6_there_above, nX6_there_there, nX6_there_kinds, nX6_there_values, nX6_there_log, nX6_there_sights, nX6_there_root, nX6_there_many, nX6_there_most, nX6_there_built, nX6_there_cost, nX6_there_credit, nX6_there_lowest, nX6_there_logMany, nX6_there_seenMany]
theorem kr_root (M : SX6) : gX6_root (kr6 M) = upd (gX6_root M) (ii 0).toNatClampNeg (gX6_keptRoot M) := by unfold kr6; simp only [nX6_root_left, nX6_root_right, nX6_root_above, nX6_root_there, nX6_root_kinds, nX6_root_values, nX6_root_log, nX6_root_sights, nX6_root_root, nX6_root_many, nX6_root_most, nX6_root_built, nX6_root_cost, nX6_root_credit, nX6_root_lowest, nX6_root_logMany, nX6_root_seenMany]
theorem kr_many (M : SX6) : gX6_many (kr6 M) = upd (gX6_many M) (ii 0).toNatClampNeg (gX6_keptMany M) := by unfold kr6; simp only [nX6_many_left, nX6_many_right, nX6_many_above, nX6_many_there, nX6_many_kinds, nX6_many_values, nX6_many_log, nX6_many_sights, nX6_many_root, nX6_many_many, nX6_many_most, nX6_many_built, nX6_many_cost, nX6_many_credit, nX6_many_lowest, nX6_many_logMany, nX6_many_seenMany]
theorem kr_most (M : SX6) : gX6_most (kr6 M) = upd (gX6_most M) (ii 0).toNatClampNeg (gX6_keptMost M) := by unfold kr6; simp only [nX6_most_left, nX6_most_right, nX6_most_above, nX6_most_there, nX6_most_kinds, nX6_most_values, nX6_most_log, nX6_most_sights, nX6_most_root, nX6_most_many, nX6_most_most, nX6_most_built, nX6_most_cost, nX6_most_credit, nX6_most_lowest, nX6_most_logMany, nX6_most_seenMany]
theorem kr_built (M : SX6) : gX6_built (kr6 M) = upd (gX6_built M) (ii 0).toNatClampNeg (gX6_keptBuilt M) := by unfold kr6; simp only [nX6_built_left, nX6_built_right, nX6_built_above, nX6_built_there, nX6_built_kinds, nX6_built_values, nX6_built_log, nX6_built_sights, nX6_built_root, nX6_built_many, nX6_built_most, nX6_built_built, nX6_built_cost, nX6_built_credit, nX6_built_lowest, nX6_built_logMany, nX6_built_seenMany]
theorem kr_cost (M : SX6) : gX6_cost (kr6 M) = upd (gX6_cost M) (ii 0).toNatClampNeg (gX6_keptCost M) := by unfold kr6; simp only [nX6_cost_left, nX6_cost_right, nX6_cost_above, nX6_cost_there, nX6_cost_kinds, nX6_cost_values, nX6_cost_log, nX6_cost_sights, nX6_cost_root, nX6_cost_many, nX6_cost_most, nX6_cost_built, nX6_cost_cost, nX6_cost_credit, nX6_cost_lowest, nX6_cost_logMany, nX6_cost_seenMany]
theorem kr_kinds (M : SX6) : gX6_kinds (kr6 M) = gX6_keptKinds M := by unfold kr6; simp only [nX6_kinds_left, nX6_kinds_right, nX6_kinds_above, nX6_kinds_there, nX6_kinds_kinds, nX6_kinds_values, nX6_kinds_log, nX6_kinds_sights, nX6_kinds_root, nX6_kinds_many, nX6_kinds_most, nX6_kinds_built, nX6_kinds_cost, nX6_kinds_credit, nX6_kinds_lowest, nX6_kinds_logMany, nX6_kinds_seenMany]
theorem kr_values (M : SX6) : gX6_values (kr6 M) = gX6_keptValues M := by unfold kr6; simp only [nX6_values_left, nX6_values_right, nX6_values_above, nX6_values_there, nX6_values_kinds, nX6_values_values, nX6_values_log, nX6_values_sights, nX6_values_root, nX6_values_many, nX6_values_most, nX6_values_built, nX6_values_cost, nX6_values_credit, nX6_values_lowest, nX6_values_logMany, nX6_values_seenMany]
theorem kr_ratioA (M : SX6) : gX6_ratioA (kr6 M) = gX6_ratioA M := by unfold kr6; simp only [nX6_ratioA_left, nX6_ratioA_right, nX6_ratioA_above, nX6_ratioA_there, nX6_ratioA_kinds, nX6_ratioA_values, nX6_ratioA_log, nX6_ratioA_sights, nX6_ratioA_root, nX6_ratioA_many, nX6_ratioA_most, nX6_ratioA_built, nX6_ratioA_cost, nX6_ratioA_credit, nX6_ratioA_lowest, nX6_ratioA_logMany, nX6_ratioA_seenMany]
theorem kr_ratioB (M : SX6) : gX6_ratioB (kr6 M) = gX6_ratioB M := by unfold kr6; simp only [nX6_ratioB_left, nX6_ratioB_right, nX6_ratioB_above, nX6_ratioB_there, nX6_ratioB_kinds, nX6_ratioB_values, nX6_ratioB_log, nX6_ratioB_sights, nX6_ratioB_root, nX6_ratioB_many, nX6_ratioB_most, nX6_ratioB_built, nX6_ratioB_cost, nX6_ratioB_credit, nX6_ratioB_lowest, nX6_ratioB_logMany, nX6_ratioB_seenMany]
theorem kr_fee (M : SX6) : gX6_fee (kr6 M) = gX6_fee M := by unfold kr6; simp only [nX6_fee_left, nX6_fee_right, nX6_fee_above, nX6_fee_there, nX6_fee_kinds, nX6_fee_values, nX6_fee_log, nX6_fee_sights, nX6_fee_root, nX6_fee_many, nX6_fee_most, nX6_fee_built, nX6_fee_cost, nX6_fee_credit, nX6_fee_lowest, nX6_fee_logMany, nX6_fee_seenMany]
theorem kr_credit (M : SX6) : gX6_credit (kr6 M) = gX6_keptCredit M := by unfold kr6; simp only [nX6_credit_left, nX6_credit_right, nX6_credit_above, nX6_credit_there, nX6_credit_kinds, nX6_credit_values, nX6_credit_log, nX6_credit_sights, nX6_credit_root, nX6_credit_many, nX6_credit_most, nX6_credit_built, nX6_credit_cost, nX6_credit_credit, nX6_credit_lowest, nX6_credit_logMany, nX6_credit_seenMany]
theorem kr_lowest (M : SX6) : gX6_lowest (kr6 M) = gX6_keptLowest M := by unfold kr6; simp only [nX6_lowest_left, nX6_lowest_right, nX6_lowest_above, nX6_lowest_there, nX6_lowest_kinds, nX6_lowest_values, nX6_lowest_log, nX6_lowest_sights, nX6_lowest_root, nX6_lowest_many, nX6_lowest_most, nX6_lowest_built, nX6_lowest_cost, nX6_lowest_credit, nX6_lowest_lowest, nX6_lowest_logMany, nX6_lowest_seenMany]
theorem kr_log (M : SX6) : gX6_log (kr6 M) = gX6_keptLog M := by unfold kr6; simp only [nX6_log_left, nX6_log_right, nX6_log_above, nX6_log_there, nX6_log_kinds, nX6_log_values, nX6_log_log, nX6_log_sights, nX6_log_root, nX6_log_many, nX6_log_most, nX6_log_built, nX6_log_cost, nX6_log_credit, nX6_log_lowest, nX6_log_logMany, nX6_log_seenMany]
theorem kr_logMany (M : SX6) : gX6_logMany (kr6 M) = gX6_keptLogMany M := by unfold kr6; simp only [nX6_logMany_left, nX6_logMany_right, nX6_logMany_above, nX6_logMany_there, nX6_logMany_kinds, nX6_logMany_values, nX6_logMany_log, nX6_logMany_sights, nX6_logMany_root, nX6_logMany_many, nX6_logMany_most, nX6_logMany_built, nX6_logMany_cost, nX6_logMany_credit, nX6_logMany_lowest, nX6_logMany_logMany, nX6_logMany_seenMany]
theorem kr_seenMany (M : SX6) : gX6_seenMany (kr6 M) = gX6_keptSeen M := by unfold kr6; simp only [nX6_seenMany_left, nX6_seenMany_right, nX6_seenMany_above, nX6_seenMany_there, nX6_seenMany_kinds, nX6_seenMany_values, nX6_seenMany_log, nX6_seenMany_sights, nX6_seenMany_root, nX6_seenMany_many, nX6_seenMany_most, nX6_seenMany_built, nX6_seenMany_cost, nX6_seenMany_credit, nX6_seenMany_lowest, nX6_seenMany_logMany, nX6_seenMany_seenMany]
theorem kr_sights (M : SX6) : gX6_sights (kr6 M) = gX6_keptSights M := by unfold kr6; simp only [nX6_sights_left, nX6_sights_right, nX6_sights_above, nX6_sights_there, nX6_sights_kinds, nX6_sights_values, nX6_sights_log, nX6_sights_sights, nX6_sights_root, nX6_sights_many, nX6_sights_most, nX6_sights_built, nX6_sights_cost, nX6_sights_credit, nX6_sights_lowest, nX6_sights_logMany, nX6_sights_seenMany]
theorem kr_shelvesRead (M : SX6) : gX6_shelvesRead (kr6 M) = gX6_shelvesRead M := by unfold kr6; simp only [nX6_shelvesRead_left, nX6_shelvesRead_right, nX6_shelvesRead_above, nX6_shelvesRead_there, nX6_shelvesRead_kinds, nX6_shelvesRead_values, nX6_shelvesRead_log, nX6_shelvesRead_sights, nX6_shelvesRead_root, nX6_shelvesRead_many, nX6_shelvesRead_most, nX6_shelvesRead_built, nX6_shelvesRead_cost, nX6_shelvesRead_credit, nX6_shelvesRead_lowest, nX6_shelvesRead_logMany, nX6_shelvesRead_seenMany]
theorem kr_page (M : SX6) : gX6_page (kr6 M) = gX6_page M := by unfold kr6; simp only [nX6_page_left, nX6_page_right, nX6_page_above, nX6_page_there, nX6_page_kinds, nX6_page_values, nX6_page_log, nX6_page_sights, nX6_page_root, nX6_page_many, nX6_page_most, nX6_page_built, nX6_page_cost, nX6_page_credit, nX6_page_lowest, nX6_page_logMany, nX6_page_seenMany]
theorem kr_pageMany (M : SX6) : gX6_pageMany (kr6 M) = gX6_pageMany M := by unfold kr6; simp only [nX6_pageMany_left, nX6_pageMany_right, nX6_pageMany_above, nX6_pageMany_there, nX6_pageMany_kinds, nX6_pageMany_values, nX6_pageMany_log, nX6_pageMany_sights, nX6_pageMany_root, nX6_pageMany_many, nX6_pageMany_most, nX6_pageMany_built, nX6_pageMany_cost, nX6_pageMany_credit, nX6_pageMany_lowest, nX6_pageMany_logMany, nX6_pageMany_seenMany]
theorem rd_z (f : Nat → Int32) : (f (ii 0).toNatClampNeg).toInt = rd f 0 := rfl
theorem sr_copy {n : Int} {o : Bool} (K : SX3) {s : SX3} {M : SX6} (h : sr n o s M) : ∃ K', fX3_copy K s = some K' ∧ sr n o K' M := by
  obtain ⟨v, a, b, m, d, c, f, x, y, xs, q, ⟨t1, t2, t3, t4, t5, t6⟩, h2, h3, h4, hm, ⟨l1, l2, l3, l4⟩, ⟨q1, q2, q3⟩⟩ := h
  obtain ⟨T', e1, e2, e3⟩ := copy_eq (gX3_tree K) t1 t3
  have e0 : ((0 : Int32)).toNatClampNeg = 0 := by decide
  have e100 : ((100 : Int32)).toNatClampNeg = 100 := by decide
  have e60 : ((60 : Int32)).toNatClampNeg = 60 := by decide
  have e6 : ((6 : Int32)).toNatClampNeg = 6 := by decide
  refine ⟨_, cv_bd_eq e1 _, v, a, b, m, d, c, f, x, y, xs, q, ⟨e2, t2, e3, t4, t5, t6⟩, h2, h3, ⟨fun k k0 k1 => ?_, fun k k0 k1 => ?_⟩, hm, ⟨l1, l2, ⟨l3.1, fun i hi => ?_⟩, l4⟩, ⟨q1, q2, ⟨q3.1, fun i hi => ?_⟩⟩⟩
  · show rd (va_cpy (gX3_kinds s) (gX3_kinds K) ((0 : Int32)).toNatClampNeg ((0 : Int32)).toNatClampNeg ((100 : Int32)).toNatClampNeg) k = _ ∧ _
    rw [e0, e100, rd_cpy _ _ _ k0 (by omega)]
    exact h4.1 k k0 k1
  · show rd (va_cpy (gX3_values s) (gX3_values K) ((0 : Int32)).toNatClampNeg ((0 : Int32)).toNatClampNeg ((100 : Int32)).toNatClampNeg) k = _ ∧ _
    rw [e0, e100, rd_cpy _ _ _ k0 (by omega)]
    exact h4.2 k k0 k1
  · have := l3.1
    show _ ∧ rd (va_cpy (gX0_keys (gX3_log s)) (gX0_keys (gX3_log K)) ((0 : Int32)).toNatClampNeg ((0 : Int32)).toNatClampNeg ((60 : Int32)).toNatClampNeg) i = _ ∧ _
    rw [e0, e60, rd_cpy _ _ _ (by omega) (by omega)]
    exact l3.2 i hi
  · have := q3.1
    show rd (va_cpy (gX2_keys (gX3_seen s)) (gX2_keys (gX3_seen K)) ((0 : Int32)).toNatClampNeg ((0 : Int32)).toNatClampNeg ((6 : Int32)).toNatClampNeg) i = _ ∧ _ ∧ _ ∧ (va_cpy (gX2_fitting (gX3_seen s)) (gX2_fitting (gX3_seen K)) ((0 : Int32)).toNatClampNeg ((0 : Int32)).toNatClampNeg ((6 : Int32)).toNatClampNeg) (ii i).toNatClampNeg = _
    rw [e0, e6, rd_cpy _ _ _ (by omega) (by omega)]
    have e := q3.2 i hi
    refine ⟨e.1, e.2.1, e.2.2.1, ?_⟩
    rw [rd_ii (va_cpy (gX2_fitting (gX3_seen s)) (gX2_fitting (gX3_seen K)) 0 0 6) (k := (i : Int)) (by omega) (by omega), rd_cpy _ _ _ (by omega) (by omega), ← rd_ii (gX2_fitting (gX3_seen s)) (k := (i : Int)) (by omega) (by omega)]
    exact e.2.2.2
section
variable {n : Int} {C : SX5} {M : SX6}
def onI (S : SX6) := (gX6_page S, gX6_pageMany S, gX6_left S, gX6_right S, gX6_above S, gX6_there S, gX6_root S, gX6_many S, gX6_most S, gX6_builtNow S, gX6_built S, gX6_cost S, gX6_kinds S, gX6_values S, gX6_ratioA S, gX6_ratioB S, gX6_thenA S, gX6_thenB S, gX6_fee S, gX6_credit S, gX6_lowest S, gX6_log S, gX6_logMany S, gX6_shelvesRead S, gX6_row S, gX6_spanLow S, gX6_spanHigh S, gX6_spanOn S, gX6_seenMany S, gX6_sights S, gX6_seedNow S, gX6_hash S)
theorem onI_page {S S' : SX6} (h : onI S' = onI S) : gX6_page S' = gX6_page S := congrArg (fun x => x.1) h
theorem onI_pageMany {S S' : SX6} (h : onI S' = onI S) : gX6_pageMany S' = gX6_pageMany S := congrArg (fun x => x.2.1) h
theorem onI_left {S S' : SX6} (h : onI S' = onI S) : gX6_left S' = gX6_left S := congrArg (fun x => x.2.2.1) h
theorem onI_right {S S' : SX6} (h : onI S' = onI S) : gX6_right S' = gX6_right S := congrArg (fun x => x.2.2.2.1) h
theorem onI_above {S S' : SX6} (h : onI S' = onI S) : gX6_above S' = gX6_above S := congrArg (fun x => x.2.2.2.2.1) h
theorem onI_there {S S' : SX6} (h : onI S' = onI S) : gX6_there S' = gX6_there S := congrArg (fun x => x.2.2.2.2.2.1) h
theorem onI_root {S S' : SX6} (h : onI S' = onI S) : gX6_root S' = gX6_root S := congrArg (fun x => x.2.2.2.2.2.2.1) h
theorem onI_many {S S' : SX6} (h : onI S' = onI S) : gX6_many S' = gX6_many S := congrArg (fun x => x.2.2.2.2.2.2.2.1) h
theorem onI_most {S S' : SX6} (h : onI S' = onI S) : gX6_most S' = gX6_most S := congrArg (fun x => x.2.2.2.2.2.2.2.2.1) h
theorem onI_builtNow {S S' : SX6} (h : onI S' = onI S) : gX6_builtNow S' = gX6_builtNow S := congrArg (fun x => x.2.2.2.2.2.2.2.2.2.1) h
theorem onI_built {S S' : SX6} (h : onI S' = onI S) : gX6_built S' = gX6_built S := congrArg (fun x => x.2.2.2.2.2.2.2.2.2.2.1) h
theorem onI_cost {S S' : SX6} (h : onI S' = onI S) : gX6_cost S' = gX6_cost S := congrArg (fun x => x.2.2.2.2.2.2.2.2.2.2.2.1) h
theorem onI_kinds {S S' : SX6} (h : onI S' = onI S) : gX6_kinds S' = gX6_kinds S := congrArg (fun x => x.2.2.2.2.2.2.2.2.2.2.2.2.1) h
theorem onI_values {S S' : SX6} (h : onI S' = onI S) : gX6_values S' = gX6_values S := congrArg (fun x => x.2.2.2.2.2.2.2.2.2.2.2.2.2.1) h
theorem onI_ratioA {S S' : SX6} (h : onI S' = onI S) : gX6_ratioA S' = gX6_ratioA S := congrArg (fun x => x.2.2.2.2.2.2.2.2.2.2.2.2.2.2.1) h
theorem onI_ratioB {S S' : SX6} (h : onI S' = onI S) : gX6_ratioB S' = gX6_ratioB S := congrArg (fun x => x.2.2.2.2.2.2.2.2.2.2.2.2.2.2.2.1) h
theorem onI_thenA {S S' : SX6} (h : onI S' = onI S) : gX6_thenA S' = gX6_thenA S := congrArg (fun x => x.2.2.2.2.2.2.2.2.2.2.2.2.2.2.2.2.1) h
theorem onI_thenB {S S' : SX6} (h : onI S' = onI S) : gX6_thenB S' = gX6_thenB S := congrArg (fun x => x.2.2.2.2.2.2.2.2.2.2.2.2.2.2.2.2.2.1) h
theorem onI_fee {S S' : SX6} (h : onI S' = onI S) : gX6_fee S' = gX6_fee S := congrArg (fun x => x.2.2.2.2.2.2.2.2.2.2.2.2.2.2.2.2.2.2.1) h
theorem onI_credit {S S' : SX6} (h : onI S' = onI S) : gX6_credit S' = gX6_credit S := congrArg (fun x => x.2.2.2.2.2.2.2.2.2.2.2.2.2.2.2.2.2.2.2.1) h
theorem onI_lowest {S S' : SX6} (h : onI S' = onI S) : gX6_lowest S' = gX6_lowest S := congrArg (fun x => x.2.2.2.2.2.2.2.2.2.2.2.2.2.2.2.2.2.2.2.2.1) h
theorem onI_log {S S' : SX6} (h : onI S' = onI S) : gX6_log S' = gX6_log S := congrArg (fun x => x.2.2.2.2.2.2.2.2.2.2.2.2.2.2.2.2.2.2.2.2.2.1) h
theorem onI_logMany {S S' : SX6} (h : onI S' = onI S) : gX6_logMany S' = gX6_logMany S := congrArg (fun x => x.2.2.2.2.2.2.2.2.2.2.2.2.2.2.2.2.2.2.2.2.2.2.1) h
theorem onI_shelvesRead {S S' : SX6} (h : onI S' = onI S) : gX6_shelvesRead S' = gX6_shelvesRead S := congrArg (fun x => x.2.2.2.2.2.2.2.2.2.2.2.2.2.2.2.2.2.2.2.2.2.2.2.1) h
theorem onI_row {S S' : SX6} (h : onI S' = onI S) : gX6_row S' = gX6_row S := congrArg (fun x => x.2.2.2.2.2.2.2.2.2.2.2.2.2.2.2.2.2.2.2.2.2.2.2.2.1) h
theorem onI_spanLow {S S' : SX6} (h : onI S' = onI S) : gX6_spanLow S' = gX6_spanLow S := congrArg (fun x => x.2.2.2.2.2.2.2.2.2.2.2.2.2.2.2.2.2.2.2.2.2.2.2.2.2.1) h
theorem onI_spanHigh {S S' : SX6} (h : onI S' = onI S) : gX6_spanHigh S' = gX6_spanHigh S := congrArg (fun x => x.2.2.2.2.2.2.2.2.2.2.2.2.2.2.2.2.2.2.2.2.2.2.2.2.2.2.1) h
theorem onI_spanOn {S S' : SX6} (h : onI S' = onI S) : gX6_spanOn S' = gX6_spanOn S := congrArg (fun x => x.2.2.2.2.2.2.2.2.2.2.2.2.2.2.2.2.2.2.2.2.2.2.2.2.2.2.2.1) h
theorem onI_seenMany {S S' : SX6} (h : onI S' = onI S) : gX6_seenMany S' = gX6_seenMany S := congrArg (fun x => x.2.2.2.2.2.2.2.2.2.2.2.2.2.2.2.2.2.2.2.2.2.2.2.2.2.2.2.2.1) h
theorem onI_sights {S S' : SX6} (h : onI S' = onI S) : gX6_sights S' = gX6_sights S := congrArg (fun x => x.2.2.2.2.2.2.2.2.2.2.2.2.2.2.2.2.2.2.2.2.2.2.2.2.2.2.2.2.2.1) h
theorem onI_seedNow {S S' : SX6} (h : onI S' = onI S) : gX6_seedNow S' = gX6_seedNow S := congrArg (fun x => x.2.2.2.2.2.2.2.2.2.2.2.2.2.2.2.2.2.2.2.2.2.2.2.2.2.2.2.2.2.2.1) h
theorem onI_hash {S S' : SX6} (h : onI S' = onI S) : gX6_hash S' = gX6_hash S := congrArg (fun x => x.2.2.2.2.2.2.2.2.2.2.2.2.2.2.2.2.2.2.2.2.2.2.2.2.2.2.2.2.2.2.2) h
def onR (S : SX6) := (gX6_page S, gX6_pageMany S, gX6_builtNow S, gX6_ratioA S, gX6_ratioB S, gX6_thenA S, gX6_thenB S, gX6_fee S, gX6_shelvesRead S, gX6_row S, gX6_spanLow S, gX6_spanHigh S, gX6_spanOn S, gX6_seedNow S, gX6_keptShelf S, gX6_keptRoot S, gX6_keptMany S, gX6_keptMost S, gX6_keptBuilt S, gX6_keptCost S, gX6_keptCredit S, gX6_keptLowest S, gX6_keptLogMany S, gX6_keptSeen S, gX6_keptLeft S, gX6_keptRight S, gX6_keptAbove S, gX6_keptThere S, gX6_keptKinds S, gX6_keptValues S, gX6_keptLog S, gX6_keptSights S, gX6_hash S)
theorem onR_page {S S' : SX6} (h : onR S' = onR S) : gX6_page S' = gX6_page S := congrArg (fun x => x.1) h
theorem onR_pageMany {S S' : SX6} (h : onR S' = onR S) : gX6_pageMany S' = gX6_pageMany S := congrArg (fun x => x.2.1) h
theorem onR_builtNow {S S' : SX6} (h : onR S' = onR S) : gX6_builtNow S' = gX6_builtNow S := congrArg (fun x => x.2.2.1) h
theorem onR_ratioA {S S' : SX6} (h : onR S' = onR S) : gX6_ratioA S' = gX6_ratioA S := congrArg (fun x => x.2.2.2.1) h
theorem onR_ratioB {S S' : SX6} (h : onR S' = onR S) : gX6_ratioB S' = gX6_ratioB S := congrArg (fun x => x.2.2.2.2.1) h
theorem onR_thenA {S S' : SX6} (h : onR S' = onR S) : gX6_thenA S' = gX6_thenA S := congrArg (fun x => x.2.2.2.2.2.1) h
theorem onR_thenB {S S' : SX6} (h : onR S' = onR S) : gX6_thenB S' = gX6_thenB S := congrArg (fun x => x.2.2.2.2.2.2.1) h
theorem onR_fee {S S' : SX6} (h : onR S' = onR S) : gX6_fee S' = gX6_fee S := congrArg (fun x => x.2.2.2.2.2.2.2.1) h
theorem onR_shelvesRead {S S' : SX6} (h : onR S' = onR S) : gX6_shelvesRead S' = gX6_shelvesRead S := congrArg (fun x => x.2.2.2.2.2.2.2.2.1) h
theorem onR_row {S S' : SX6} (h : onR S' = onR S) : gX6_row S' = gX6_row S := congrArg (fun x => x.2.2.2.2.2.2.2.2.2.1) h
theorem onR_spanLow {S S' : SX6} (h : onR S' = onR S) : gX6_spanLow S' = gX6_spanLow S := congrArg (fun x => x.2.2.2.2.2.2.2.2.2.2.1) h
theorem onR_spanHigh {S S' : SX6} (h : onR S' = onR S) : gX6_spanHigh S' = gX6_spanHigh S := congrArg (fun x => x.2.2.2.2.2.2.2.2.2.2.2.1) h
theorem onR_spanOn {S S' : SX6} (h : onR S' = onR S) : gX6_spanOn S' = gX6_spanOn S := congrArg (fun x => x.2.2.2.2.2.2.2.2.2.2.2.2.1) h
theorem onR_seedNow {S S' : SX6} (h : onR S' = onR S) : gX6_seedNow S' = gX6_seedNow S := congrArg (fun x => x.2.2.2.2.2.2.2.2.2.2.2.2.2.1) h
theorem onR_keptShelf {S S' : SX6} (h : onR S' = onR S) : gX6_keptShelf S' = gX6_keptShelf S := congrArg (fun x => x.2.2.2.2.2.2.2.2.2.2.2.2.2.2.1) h
theorem onR_keptRoot {S S' : SX6} (h : onR S' = onR S) : gX6_keptRoot S' = gX6_keptRoot S := congrArg (fun x => x.2.2.2.2.2.2.2.2.2.2.2.2.2.2.2.1) h
theorem onR_keptMany {S S' : SX6} (h : onR S' = onR S) : gX6_keptMany S' = gX6_keptMany S := congrArg (fun x => x.2.2.2.2.2.2.2.2.2.2.2.2.2.2.2.2.1) h
theorem onR_keptMost {S S' : SX6} (h : onR S' = onR S) : gX6_keptMost S' = gX6_keptMost S := congrArg (fun x => x.2.2.2.2.2.2.2.2.2.2.2.2.2.2.2.2.2.1) h
theorem onR_keptBuilt {S S' : SX6} (h : onR S' = onR S) : gX6_keptBuilt S' = gX6_keptBuilt S := congrArg (fun x => x.2.2.2.2.2.2.2.2.2.2.2.2.2.2.2.2.2.2.1) h
theorem onR_keptCost {S S' : SX6} (h : onR S' = onR S) : gX6_keptCost S' = gX6_keptCost S := congrArg (fun x => x.2.2.2.2.2.2.2.2.2.2.2.2.2.2.2.2.2.2.2.1) h
theorem onR_keptCredit {S S' : SX6} (h : onR S' = onR S) : gX6_keptCredit S' = gX6_keptCredit S := congrArg (fun x => x.2.2.2.2.2.2.2.2.2.2.2.2.2.2.2.2.2.2.2.2.1) h
theorem onR_keptLowest {S S' : SX6} (h : onR S' = onR S) : gX6_keptLowest S' = gX6_keptLowest S := congrArg (fun x => x.2.2.2.2.2.2.2.2.2.2.2.2.2.2.2.2.2.2.2.2.2.1) h
theorem onR_keptLogMany {S S' : SX6} (h : onR S' = onR S) : gX6_keptLogMany S' = gX6_keptLogMany S := congrArg (fun x => x.2.2.2.2.2.2.2.2.2.2.2.2.2.2.2.2.2.2.2.2.2.2.1) h
theorem onR_keptSeen {S S' : SX6} (h : onR S' = onR S) : gX6_keptSeen S' = gX6_keptSeen S := congrArg (fun x => x.2.2.2.2.2.2.2.2.2.2.2.2.2.2.2.2.2.2.2.2.2.2.2.1) h
theorem onR_keptLeft {S S' : SX6} (h : onR S' = onR S) : gX6_keptLeft S' = gX6_keptLeft S := congrArg (fun x => x.2.2.2.2.2.2.2.2.2.2.2.2.2.2.2.2.2.2.2.2.2.2.2.2.1) h
theorem onR_keptRight {S S' : SX6} (h : onR S' = onR S) : gX6_keptRight S' = gX6_keptRight S := congrArg (fun x => x.2.2.2.2.2.2.2.2.2.2.2.2.2.2.2.2.2.2.2.2.2.2.2.2.2.1) h
theorem onR_keptAbove {S S' : SX6} (h : onR S' = onR S) : gX6_keptAbove S' = gX6_keptAbove S := congrArg (fun x => x.2.2.2.2.2.2.2.2.2.2.2.2.2.2.2.2.2.2.2.2.2.2.2.2.2.2.1) h
theorem onR_keptThere {S S' : SX6} (h : onR S' = onR S) : gX6_keptThere S' = gX6_keptThere S := congrArg (fun x => x.2.2.2.2.2.2.2.2.2.2.2.2.2.2.2.2.2.2.2.2.2.2.2.2.2.2.2.1) h
theorem onR_keptKinds {S S' : SX6} (h : onR S' = onR S) : gX6_keptKinds S' = gX6_keptKinds S := congrArg (fun x => x.2.2.2.2.2.2.2.2.2.2.2.2.2.2.2.2.2.2.2.2.2.2.2.2.2.2.2.2.1) h
theorem onR_keptValues {S S' : SX6} (h : onR S' = onR S) : gX6_keptValues S' = gX6_keptValues S := congrArg (fun x => x.2.2.2.2.2.2.2.2.2.2.2.2.2.2.2.2.2.2.2.2.2.2.2.2.2.2.2.2.2.1) h
theorem onR_keptLog {S S' : SX6} (h : onR S' = onR S) : gX6_keptLog S' = gX6_keptLog S := congrArg (fun x => x.2.2.2.2.2.2.2.2.2.2.2.2.2.2.2.2.2.2.2.2.2.2.2.2.2.2.2.2.2.2.1) h
theorem onR_keptSights {S S' : SX6} (h : onR S' = onR S) : gX6_keptSights S' = gX6_keptSights S := congrArg (fun x => x.2.2.2.2.2.2.2.2.2.2.2.2.2.2.2.2.2.2.2.2.2.2.2.2.2.2.2.2.2.2.2.1) h
theorem onR_hash {S S' : SX6} (h : onR S' = onR S) : gX6_hash S' = gX6_hash S := congrArg (fun x => x.2.2.2.2.2.2.2.2.2.2.2.2.2.2.2.2.2.2.2.2.2.2.2.2.2.2.2.2.2.2.2.2) h
theorem onI_w_keptShelf (S : SX6) (v : Int32) : onI (sX6_keptShelf S v) = onI S := id rfl
theorem onI_w_keptRoot (S : SX6) (v : Int32) : onI (sX6_keptRoot S v) = onI S := id rfl
theorem onI_w_keptMany (S : SX6) (v : Int32) : onI (sX6_keptMany S v) = onI S := id rfl
theorem onI_w_keptMost (S : SX6) (v : Int32) : onI (sX6_keptMost S v) = onI S := id rfl
theorem onI_w_keptBuilt (S : SX6) (v : Int32) : onI (sX6_keptBuilt S v) = onI S := id rfl
theorem onI_w_keptCost (S : SX6) (v : Int32) : onI (sX6_keptCost S v) = onI S := id rfl
theorem onI_w_keptCredit (S : SX6) (v : Int32) : onI (sX6_keptCredit S v) = onI S := id rfl
theorem onI_w_keptLowest (S : SX6) (v : Int32) : onI (sX6_keptLowest S v) = onI S := id rfl
theorem onI_w_keptLogMany (S : SX6) (v : Int32) : onI (sX6_keptLogMany S v) = onI S := id rfl
theorem onI_w_keptSeen (S : SX6) (v : Int32) : onI (sX6_keptSeen S v) = onI S := id rfl
theorem onI_w_keptLeft (S : SX6) (v : (Nat → Int32)) : onI (sX6_keptLeft S v) = onI S := id rfl
theorem onI_w_keptRight (S : SX6) (v : (Nat → Int32)) : onI (sX6_keptRight S v) = onI S := id rfl
theorem onI_w_keptAbove (S : SX6) (v : (Nat → Int32)) : onI (sX6_keptAbove S v) = onI S := id rfl
theorem onI_w_keptThere (S : SX6) (v : (Nat → Int32)) : onI (sX6_keptThere S v) = onI S := id rfl
theorem onI_w_keptKinds (S : SX6) (v : (Nat → Int32)) : onI (sX6_keptKinds S v) = onI S := id rfl
theorem onI_w_keptValues (S : SX6) (v : (Nat → Int32)) : onI (sX6_keptValues S v) = onI S := id rfl
theorem onI_w_keptLog (S : SX6) (v : (Nat → Int32)) : onI (sX6_keptLog S v) = onI S := id rfl
theorem onI_w_keptSights (S : SX6) (v : (Nat → Int32)) : onI (sX6_keptSights S v) = onI S := id rfl
theorem onR_w_left (S : SX6) (v : (Nat → Int32)) : onR (sX6_left S v) = onR S := id rfl
theorem onR_w_right (S : SX6) (v : (Nat → Int32)) : onR (sX6_right S v) = onR S := id rfl
theorem onR_w_above (S : SX6) (v : (Nat → Int32)) : onR (sX6_above S v) = onR S := id rfl
theorem onR_w_there (S : SX6) (v : (Nat → Int32)) : onR (sX6_there S v) = onR S := id rfl
theorem onR_w_kinds (S : SX6) (v : (Nat → Int32)) : onR (sX6_kinds S v) = onR S := id rfl
theorem onR_w_values (S : SX6) (v : (Nat → Int32)) : onR (sX6_values S v) = onR S := id rfl
theorem onR_w_log (S : SX6) (v : (Nat → Int32)) : onR (sX6_log S v) = onR S := id rfl
theorem onR_w_sights (S : SX6) (v : (Nat → Int32)) : onR (sX6_sights S v) = onR S := id rfl
theorem onR_w_root (S : SX6) (v : (Nat → Int32)) : onR (sX6_root S v) = onR S := id rfl
theorem onR_w_many (S : SX6) (v : (Nat → Int32)) : onR (sX6_many S v) = onR S := id rfl
theorem onR_w_most (S : SX6) (v : (Nat → Int32)) : onR (sX6_most S v) = onR S := id rfl
theorem onR_w_built (S : SX6) (v : (Nat → Int32)) : onR (sX6_built S v) = onR S := id rfl
theorem onR_w_cost (S : SX6) (v : (Nat → Int32)) : onR (sX6_cost S v) = onR S := id rfl
theorem onR_w_credit (S : SX6) (v : Int32) : onR (sX6_credit S v) = onR S := id rfl
theorem onR_w_lowest (S : SX6) (v : Int32) : onR (sX6_lowest S v) = onR S := id rfl
theorem onR_w_logMany (S : SX6) (v : Int32) : onR (sX6_logMany S v) = onR S := id rfl
theorem onR_w_seenMany (S : SX6) (v : Int32) : onR (sX6_seenMany S v) = onR S := id rfl
theorem image6 {M : SX6} (hl : fX6_lacks M = some (ii 0)) : ∃ M', fX6_image M = some (gX6_many M (ii 0).toNatClampNeg, M') ∧ eqv M (kr6 M') ∧ eqv M M' ∧ gX6_keptShelf M' = gX6_shelvesRead M ∧ gX6_shelvesRead M' = gX6_shelvesRead M ∧ gX6_page M' = gX6_page M ∧ gX6_pageMany M' = gX6_pageMany M := by
  have gt := ig2 (t := 0) (Or.inl rfl)
  have o0 : onI M = onI M := rfl
  obtain ⟨g1, c1, d1⟩ := cpy6 (N := 200) (by omega) (gX6_left M) (gX6_keptLeft M)
  obtain ⟨S1, h1⟩ : ∃ S, S = sX6_keptLeft M g1 := ⟨_, rfl⟩
  have o1 : onI S1 = onI M := by rw [h1, onI_w_keptLeft]
  obtain ⟨g2, c2, d2⟩ := cpy6 (N := 200) (by omega) (gX6_right S1) (gX6_keptRight S1)
  obtain ⟨S2, h2⟩ : ∃ S, S = sX6_keptRight S1 g2 := ⟨_, rfl⟩
  have o2 : onI S2 = onI M := by rw [h2, onI_w_keptRight]; exact o1
  obtain ⟨g3, c3, d3⟩ := cpy6 (N := 200) (by omega) (gX6_above S2) (gX6_keptAbove S2)
  obtain ⟨S3, h3⟩ : ∃ S, S = sX6_keptAbove S2 g3 := ⟨_, rfl⟩
  have o3 : onI S3 = onI M := by rw [h3, onI_w_keptAbove]; exact o2
  obtain ⟨g4, c4, d4⟩ := cpy6 (N := 200) (by omega) (gX6_there S3) (gX6_keptThere S3)
  obtain ⟨S4, h4⟩ : ∃ S, S = sX6_keptThere S3 g4 := ⟨_, rfl⟩
  have o4 : onI S4 = onI M := by rw [h4, onI_w_keptThere]; exact o3
  obtain ⟨g5, c5, d5⟩ := cpy6 (N := 100) (by omega) (gX6_kinds S4) (gX6_keptKinds S4)
  obtain ⟨S5, h5⟩ : ∃ S, S = sX6_keptKinds S4 g5 := ⟨_, rfl⟩
  have o5 : onI S5 = onI M := by rw [h5, onI_w_keptKinds]; exact o4
  obtain ⟨g6, c6, d6⟩ := cpy6 (N := 100) (by omega) (gX6_values S5) (gX6_keptValues S5)
  obtain ⟨S6, h6⟩ : ∃ S, S = sX6_keptValues S5 g6 := ⟨_, rfl⟩
  have o6 : onI S6 = onI M := by rw [h6, onI_w_keptValues]; exact o5
  obtain ⟨g7, c7, d7⟩ := cpy6 (N := 60) (by omega) (gX6_log S6) (gX6_keptLog S6)
  obtain ⟨S7, h7⟩ : ∃ S, S = sX6_keptLog S6 g7 := ⟨_, rfl⟩
  have o7 : onI S7 = onI M := by rw [h7, onI_w_keptLog]; exact o6
  obtain ⟨g8, c8, d8⟩ := cpy6 (N := 18) (by omega) (gX6_sights S7) (gX6_keptSights S7)
  obtain ⟨S8, h8⟩ : ∃ S, S = sX6_keptSights S7 g8 := ⟨_, rfl⟩
  have o8 : onI S8 = onI M := by rw [h8, onI_w_keptSights]; exact o7
  obtain ⟨S9, h9⟩ : ∃ S, S = sX6_keptRoot S8 (gX6_root S8 (ii 0).toNatClampNeg) := ⟨_, rfl⟩
  have o9 : onI S9 = onI M := by rw [h9, onI_w_keptRoot]; exact o8
  obtain ⟨S10, h10⟩ : ∃ S, S = sX6_keptMany S9 (gX6_many S9 (ii 0).toNatClampNeg) := ⟨_, rfl⟩
  have o10 : onI S10 = onI M := by rw [h10, onI_w_keptMany]; exact o9
  obtain ⟨S11, h11⟩ : ∃ S, S = sX6_keptMost S10 (gX6_most S10 (ii 0).toNatClampNeg) := ⟨_, rfl⟩
  have o11 : onI S11 = onI M := by rw [h11, onI_w_keptMost]; exact o10
  obtain ⟨S12, h12⟩ : ∃ S, S = sX6_keptBuilt S11 (gX6_built S11 (ii 0).toNatClampNeg) := ⟨_, rfl⟩
  have o12 : onI S12 = onI M := by rw [h12, onI_w_keptBuilt]; exact o11
  obtain ⟨S13, h13⟩ : ∃ S, S = sX6_keptCost S12 (gX6_cost S12 (ii 0).toNatClampNeg) := ⟨_, rfl⟩
  have o13 : onI S13 = onI M := by rw [h13, onI_w_keptCost]; exact o12
  obtain ⟨S14, h14⟩ : ∃ S, S = sX6_keptCredit S13 (gX6_credit S13) := ⟨_, rfl⟩
  have o14 : onI S14 = onI M := by rw [h14, onI_w_keptCredit]; exact o13
  obtain ⟨S15, h15⟩ : ∃ S, S = sX6_keptLowest S14 (gX6_lowest S14) := ⟨_, rfl⟩
  have o15 : onI S15 = onI M := by rw [h15, onI_w_keptLowest]; exact o14
  obtain ⟨S16, h16⟩ : ∃ S, S = sX6_keptLogMany S15 (gX6_logMany S15) := ⟨_, rfl⟩
  have o16 : onI S16 = onI M := by rw [h16, onI_w_keptLogMany]; exact o15
  obtain ⟨S17, h17⟩ : ∃ S, S = sX6_keptSeen S16 (gX6_seenMany S16) := ⟨_, rfl⟩
  have o17 : onI S17 = onI M := by rw [h17, onI_w_keptSeen]; exact o16
  obtain ⟨S18, h18⟩ : ∃ S, S = sX6_keptShelf S17 (gX6_shelvesRead S17) := ⟨_, rfl⟩
  have o18 : onI S18 = onI M := by rw [h18, onI_w_keptShelf]; exact o17
  have m_keptLeft : gX6_keptLeft S18 = g1 := by rw [h18, nX6_keptLeft_keptShelf, h17, nX6_keptLeft_keptSeen, h16, nX6_keptLeft_keptLogMany, h15, nX6_keptLeft_keptLowest, h14, nX6_keptLeft_keptCredit, h13, nX6_keptLeft_keptCost, h12, nX6_keptLeft_keptBuilt, h11, nX6_keptLeft_keptMost, h10, nX6_keptLeft_keptMany, h9, nX6_keptLeft_keptRoot, h8, nX6_keptLeft_keptSights, h7, nX6_keptLeft_keptLog, h6, nX6_keptLeft_keptValues, h5, nX6_keptLeft_keptKinds, h4, nX6_keptLeft_keptThere, h3, nX6_keptLeft_keptAbove, h2, nX6_keptLeft_keptRight, h1, nX6_keptLeft_keptLeft]
  have m_keptRight : gX6_keptRight S18 = g2 := by rw [h18, nX6_keptRight_keptShelf, h17, nX6_keptRight_keptSeen, h16, nX6_keptRight_keptLogMany, h15, nX6_keptRight_keptLowest, h14, nX6_keptRight_keptCredit, h13, nX6_keptRight_keptCost, h12, nX6_keptRight_keptBuilt, h11, nX6_keptRight_keptMost, h10, nX6_keptRight_keptMany, h9, nX6_keptRight_keptRoot, h8, nX6_keptRight_keptSights, h7, nX6_keptRight_keptLog, h6, nX6_keptRight_keptValues, h5, nX6_keptRight_keptKinds, h4, nX6_keptRight_keptThere, h3, nX6_keptRight_keptAbove, h2, nX6_keptRight_keptRight]
  have m_keptAbove : gX6_keptAbove S18 = g3 := by rw [h18, nX6_keptAbove_keptShelf, h17, nX6_keptAbove_keptSeen, h16, nX6_keptAbove_keptLogMany, h15, nX6_keptAbove_keptLowest, h14, nX6_keptAbove_keptCredit, h13, nX6_keptAbove_keptCost, h12, nX6_keptAbove_keptBuilt, h11, nX6_keptAbove_keptMost, h10, nX6_keptAbove_keptMany, h9, nX6_keptAbove_keptRoot, h8, nX6_keptAbove_keptSights, h7, nX6_keptAbove_keptLog, h6, nX6_keptAbove_keptValues, h5, nX6_keptAbove_keptKinds, h4, nX6_keptAbove_keptThere, h3, nX6_keptAbove_keptAbove]
  have m_keptThere : gX6_keptThere S18 = g4 := by rw [h18, nX6_keptThere_keptShelf, h17, nX6_keptThere_keptSeen, h16, nX6_keptThere_keptLogMany, h15, nX6_keptThere_keptLowest, h14, nX6_keptThere_keptCredit, h13, nX6_keptThere_keptCost, h12, nX6_keptThere_keptBuilt, h11, nX6_keptThere_keptMost, h10, nX6_keptThere_keptMany, h9, nX6_keptThere_keptRoot, h8, nX6_keptThere_keptSights, h7, nX6_keptThere_keptLog, h6, nX6_keptThere_keptValues, h5, nX6_keptThere_keptKinds, h4, nX6_keptThere_keptThere]
  have m_keptKinds : gX6_keptKinds S18 = g5 := by rw [h18, nX6_keptKinds_keptShelf, h17, nX6_keptKinds_keptSeen, h16, nX6_keptKinds_keptLogMany, h15, nX6_keptKinds_keptLowest, h14, nX6_keptKinds_keptCredit, h13, nX6_keptKinds_keptCost, h12, nX6_keptKinds_keptBuilt, h11, nX6_keptKinds_keptMost, h10, nX6_keptKinds_keptMany, h9, nX6_keptKinds_keptRoot, h8, nX6_keptKinds_keptSights, h7, nX6_keptKinds_keptLog, h6, nX6_keptKinds_keptValues, h5, nX6_keptKinds_keptKinds]
  have m_keptValues : gX6_keptValues S18 = g6 := by rw [h18, nX6_keptValues_keptShelf, h17, nX6_keptValues_keptSeen, h16, nX6_keptValues_keptLogMany, h15, nX6_keptValues_keptLowest, h14, nX6_keptValues_keptCredit, h13, nX6_keptValues_keptCost, h12, nX6_keptValues_keptBuilt, h11, nX6_keptValues_keptMost, h10, nX6_keptValues_keptMany, h9, nX6_keptValues_keptRoot, h8, nX6_keptValues_keptSights, h7, nX6_keptValues_keptLog, h6, nX6_keptValues_keptValues]
  have m_keptLog : gX6_keptLog S18 = g7 := by rw [h18, nX6_keptLog_keptShelf, h17, nX6_keptLog_keptSeen, h16, nX6_keptLog_keptLogMany, h15, nX6_keptLog_keptLowest, h14, nX6_keptLog_keptCredit, h13, nX6_keptLog_keptCost, h12, nX6_keptLog_keptBuilt, h11, nX6_keptLog_keptMost, h10, nX6_keptLog_keptMany, h9, nX6_keptLog_keptRoot, h8, nX6_keptLog_keptSights, h7, nX6_keptLog_keptLog]
  have m_keptSights : gX6_keptSights S18 = g8 := by rw [h18, nX6_keptSights_keptShelf, h17, nX6_keptSights_keptSeen, h16, nX6_keptSights_keptLogMany, h15, nX6_keptSights_keptLowest, h14, nX6_keptSights_keptCredit, h13, nX6_keptSights_keptCost, h12, nX6_keptSights_keptBuilt, h11, nX6_keptSights_keptMost, h10, nX6_keptSights_keptMany, h9, nX6_keptSights_keptRoot, h8, nX6_keptSights_keptSights]
  have m_keptRoot : gX6_keptRoot S18 = gX6_root M (ii 0).toNatClampNeg := by rw [h18, nX6_keptRoot_keptShelf, h17, nX6_keptRoot_keptSeen, h16, nX6_keptRoot_keptLogMany, h15, nX6_keptRoot_keptLowest, h14, nX6_keptRoot_keptCredit, h13, nX6_keptRoot_keptCost, h12, nX6_keptRoot_keptBuilt, h11, nX6_keptRoot_keptMost, h10, nX6_keptRoot_keptMany, h9, nX6_keptRoot_keptRoot, onI_root o8]
  have m_keptMany : gX6_keptMany S18 = gX6_many M (ii 0).toNatClampNeg := by rw [h18, nX6_keptMany_keptShelf, h17, nX6_keptMany_keptSeen, h16, nX6_keptMany_keptLogMany, h15, nX6_keptMany_keptLowest, h14, nX6_keptMany_keptCredit, h13, nX6_keptMany_keptCost, h12, nX6_keptMany_keptBuilt, h11, nX6_keptMany_keptMost, h10, nX6_keptMany_keptMany, onI_many o9]
  have m_keptMost : gX6_keptMost S18 = gX6_most M (ii 0).toNatClampNeg := by rw [h18, nX6_keptMost_keptShelf, h17, nX6_keptMost_keptSeen, h16, nX6_keptMost_keptLogMany, h15, nX6_keptMost_keptLowest, h14, nX6_keptMost_keptCredit, h13, nX6_keptMost_keptCost, h12, nX6_keptMost_keptBuilt, h11, nX6_keptMost_keptMost, onI_most o10]
  have m_keptBuilt : gX6_keptBuilt S18 = gX6_built M (ii 0).toNatClampNeg := by rw [h18, nX6_keptBuilt_keptShelf, h17, nX6_keptBuilt_keptSeen, h16, nX6_keptBuilt_keptLogMany, h15, nX6_keptBuilt_keptLowest, h14, nX6_keptBuilt_keptCredit, h13, nX6_keptBuilt_keptCost, h12, nX6_keptBuilt_keptBuilt, onI_built o11]
  have m_keptCost : gX6_keptCost S18 = gX6_cost M (ii 0).toNatClampNeg := by rw [h18, nX6_keptCost_keptShelf, h17, nX6_keptCost_keptSeen, h16, nX6_keptCost_keptLogMany, h15, nX6_keptCost_keptLowest, h14, nX6_keptCost_keptCredit, h13, nX6_keptCost_keptCost, onI_cost o12]
  have m_keptCredit : gX6_keptCredit S18 = gX6_credit M := by rw [h18, nX6_keptCredit_keptShelf, h17, nX6_keptCredit_keptSeen, h16, nX6_keptCredit_keptLogMany, h15, nX6_keptCredit_keptLowest, h14, nX6_keptCredit_keptCredit, onI_credit o13]
  have m_keptLowest : gX6_keptLowest S18 = gX6_lowest M := by rw [h18, nX6_keptLowest_keptShelf, h17, nX6_keptLowest_keptSeen, h16, nX6_keptLowest_keptLogMany, h15, nX6_keptLowest_keptLowest, onI_lowest o14]
  have m_keptLogMany : gX6_keptLogMany S18 = gX6_logMany M := by rw [h18, nX6_keptLogMany_keptShelf, h17, nX6_keptLogMany_keptSeen, h16, nX6_keptLogMany_keptLogMany, onI_logMany o15]
  have m_keptSeen : gX6_keptSeen S18 = gX6_seenMany M := by rw [h18, nX6_keptSeen_keptShelf, h17, nX6_keptSeen_keptSeen, onI_seenMany o16]
  have m_keptShelf : gX6_keptShelf S18 = gX6_shelvesRead M := by rw [h18, nX6_keptShelf_keptShelf, onI_shelvesRead o17]
  refine ⟨S18, ?_, ?_, ?_, m_keptShelf, onI_shelvesRead o18, onI_page o18, onI_pageMany o18⟩
  · unfold fX6_image
    rw [cv_bd_eq hl, if_pos z0_]
    simp only [ii_l0]
    rw [cv_bd_eq c1, cv_lt_eq, ← h1]
    rw [cv_bd_eq c2, cv_lt_eq, ← h2]
    rw [cv_bd_eq c3, cv_lt_eq, ← h3]
    rw [cv_bd_eq c4, cv_lt_eq, ← h4]
    rw [cv_bd_eq c5, cv_lt_eq, ← h5]
    rw [cv_bd_eq c6, cv_lt_eq, ← h6]
    rw [cv_bd_eq c7, cv_lt_eq, ← h7]
    rw [cv_bd_eq c8, cv_lt_eq, ← h8]
    rw [cv_gd_pos gt, cv_lt_eq, ← h9]
    rw [cv_gd_pos gt, cv_lt_eq, ← h10]
    rw [cv_gd_pos gt, cv_lt_eq, ← h11]
    rw [cv_gd_pos gt, cv_lt_eq, ← h12]
    rw [cv_gd_pos gt, cv_lt_eq, ← h13]
    rw [cv_lt_eq, ← h14]
    rw [cv_lt_eq, ← h15]
    rw [cv_lt_eq, ← h16]
    rw [cv_lt_eq, ← h17]
    rw [cv_lt_eq, ← h18]
    rw [cv_gd_pos gt, onI_many o18]
  · refine ⟨⟨fun k k0 k1 => ⟨?_, ?_, ?_, ?_⟩, ?_, ?_⟩, ⟨?_, ?_, ?_, ?_, ?_⟩, fun k k0 k1 => ⟨?_, ?_⟩, ⟨?_, ?_, ?_⟩, fun k k0 k1 => ?_, ⟨?_, ?_⟩, fun k k0 k1 => ?_⟩
    · rw [kr_left, m_keptLeft, d1 k k0 (by omega)]
    · rw [kr_right, m_keptRight, d2 k k0 (by omega), onI_right o1]
    · rw [kr_above, m_keptAbove, d3 k k0 (by omega), onI_above o2]
    · rw [kr_there, m_keptThere, d4 k k0 (by omega), onI_there o3]
    · rw [kr_root, m_keptRoot, rd_u0, rd_z]
    · rw [kr_many, m_keptMany, rd_u0, rd_z]
    · rw [kr_most, m_keptMost, upd_1]
    · rw [kr_built, m_keptBuilt, upd_1]
    · rw [kr_cost, m_keptCost, upd_1]
    · rw [kr_credit, m_keptCredit]
    · rw [kr_lowest, m_keptLowest]
    · rw [kr_kinds, m_keptKinds, d5 k k0 (by omega), onI_kinds o4]
    · rw [kr_values, m_keptValues, d6 k k0 (by omega), onI_values o5]
    · rw [kr_ratioA, onI_ratioA o18]
    · rw [kr_ratioB, onI_ratioB o18]
    · rw [kr_fee, onI_fee o18]
    · rw [kr_log, m_keptLog, d7 k k0 (by omega), onI_log o6]
    · rw [kr_logMany, m_keptLogMany]
    · rw [kr_seenMany, m_keptSeen]
    · rw [kr_sights, m_keptSights, d8 k k0 (by omega), onI_sights o7]
  · unfold eqv zo zn
    rw [onI_left o18, onI_right o18, onI_above o18, onI_there o18, onI_root o18, onI_many o18, onI_most o18, onI_built o18, onI_cost o18, onI_credit o18, onI_lowest o18, onI_kinds o18, onI_values o18, onI_ratioA o18, onI_ratioB o18, onI_fee o18, onI_log o18, onI_logMany o18, onI_seenMany o18, onI_sights o18]
    exact ⟨zo_refl M, zn_refl M, fun _ _ _ => ⟨rfl, rfl⟩, ⟨rfl, rfl, rfl⟩, fun _ _ _ => rfl, ⟨rfl, rfl⟩, fun _ _ _ => rfl⟩
theorem restore6 {M : SX6} (hk : gX6_keptShelf M = gX6_shelvesRead M) : ∃ M', fX6_restore M = some (gX6_keptMany M, M') ∧ eqv (kr6 M) M' ∧ okp M' = okp M ∧ gX6_keptShelf M' = gX6_keptShelf M ∧ gX6_shelvesRead M' = gX6_shelvesRead M ∧ gX6_page M' = gX6_page M ∧ gX6_pageMany M' = gX6_pageMany M := by
  have gt := ig2 (t := 0) (Or.inl rfl)
  have o0 : onR M = onR M := rfl
  obtain ⟨g1, c1, d1⟩ := cpy6 (N := 200) (by omega) (gX6_keptLeft M) (gX6_left M)
  obtain ⟨S1, h1⟩ : ∃ S, S = sX6_left M g1 := ⟨_, rfl⟩
  have o1 : onR S1 = onR M := by rw [h1, onR_w_left]
  obtain ⟨g2, c2, d2⟩ := cpy6 (N := 200) (by omega) (gX6_keptRight S1) (gX6_right S1)
  obtain ⟨S2, h2⟩ : ∃ S, S = sX6_right S1 g2 := ⟨_, rfl⟩
  have o2 : onR S2 = onR M := by rw [h2, onR_w_right]; exact o1
  obtain ⟨g3, c3, d3⟩ := cpy6 (N := 200) (by omega) (gX6_keptAbove S2) (gX6_above S2)
  obtain ⟨S3, h3⟩ : ∃ S, S = sX6_above S2 g3 := ⟨_, rfl⟩
  have o3 : onR S3 = onR M := by rw [h3, onR_w_above]; exact o2
  obtain ⟨g4, c4, d4⟩ := cpy6 (N := 200) (by omega) (gX6_keptThere S3) (gX6_there S3)
  obtain ⟨S4, h4⟩ : ∃ S, S = sX6_there S3 g4 := ⟨_, rfl⟩
  have o4 : onR S4 = onR M := by rw [h4, onR_w_there]; exact o3
  obtain ⟨g5, c5, d5⟩ := cpy6 (N := 100) (by omega) (gX6_keptKinds S4) (gX6_kinds S4)
  obtain ⟨S5, h5⟩ : ∃ S, S = sX6_kinds S4 g5 := ⟨_, rfl⟩
  have o5 : onR S5 = onR M := by rw [h5, onR_w_kinds]; exact o4
  obtain ⟨g6, c6, d6⟩ := cpy6 (N := 100) (by omega) (gX6_keptValues S5) (gX6_values S5)
  obtain ⟨S6, h6⟩ : ∃ S, S = sX6_values S5 g6 := ⟨_, rfl⟩
  have o6 : onR S6 = onR M := by rw [h6, onR_w_values]; exact o5
  obtain ⟨g7, c7, d7⟩ := cpy6 (N := 60) (by omega) (gX6_keptLog S6) (gX6_log S6)
  obtain ⟨S7, h7⟩ : ∃ S, S = sX6_log S6 g7 := ⟨_, rfl⟩
  have o7 : onR S7 = onR M := by rw [h7, onR_w_log]; exact o6
  obtain ⟨g8, c8, d8⟩ := cpy6 (N := 18) (by omega) (gX6_keptSights S7) (gX6_sights S7)
  obtain ⟨S8, h8⟩ : ∃ S, S = sX6_sights S7 g8 := ⟨_, rfl⟩
  have o8 : onR S8 = onR M := by rw [h8, onR_w_sights]; exact o7
  obtain ⟨S9, h9⟩ : ∃ S, S = sX6_root S8 (upd (gX6_root S8) (ii 0).toNatClampNeg (gX6_keptRoot S8)) := ⟨_, rfl⟩
  have o9 : onR S9 = onR M := by rw [h9, onR_w_root]; exact o8
  obtain ⟨S10, h10⟩ : ∃ S, S = sX6_many S9 (upd (gX6_many S9) (ii 0).toNatClampNeg (gX6_keptMany S9)) := ⟨_, rfl⟩
  have o10 : onR S10 = onR M := by rw [h10, onR_w_many]; exact o9
  obtain ⟨S11, h11⟩ : ∃ S, S = sX6_most S10 (upd (gX6_most S10) (ii 0).toNatClampNeg (gX6_keptMost S10)) := ⟨_, rfl⟩
  have o11 : onR S11 = onR M := by rw [h11, onR_w_most]; exact o10
  obtain ⟨S12, h12⟩ : ∃ S, S = sX6_built S11 (upd (gX6_built S11) (ii 0).toNatClampNeg (gX6_keptBuilt S11)) := ⟨_, rfl⟩
  have o12 : onR S12 = onR M := by rw [h12, onR_w_built]; exact o11
  obtain ⟨S13, h13⟩ : ∃ S, S = sX6_cost S12 (upd (gX6_cost S12) (ii 0).toNatClampNeg (gX6_keptCost S12)) := ⟨_, rfl⟩
  have o13 : onR S13 = onR M := by rw [h13, onR_w_cost]; exact o12
  obtain ⟨S14, h14⟩ : ∃ S, S = sX6_credit S13 (gX6_keptCredit S13) := ⟨_, rfl⟩
  have o14 : onR S14 = onR M := by rw [h14, onR_w_credit]; exact o13
  obtain ⟨S15, h15⟩ : ∃ S, S = sX6_lowest S14 (gX6_keptLowest S14) := ⟨_, rfl⟩
  have o15 : onR S15 = onR M := by rw [h15, onR_w_lowest]; exact o14
  obtain ⟨S16, h16⟩ : ∃ S, S = sX6_logMany S15 (gX6_keptLogMany S15) := ⟨_, rfl⟩
  have o16 : onR S16 = onR M := by rw [h16, onR_w_logMany]; exact o15
  obtain ⟨S17, h17⟩ : ∃ S, S = sX6_seenMany S16 (gX6_keptSeen S16) := ⟨_, rfl⟩
  have o17 : onR S17 = onR M := by rw [h17, onR_w_seenMany]; exact o16
  have m_left : gX6_left S17 = g1 := by rw [h17, nX6_left_seenMany, h16, nX6_left_logMany, h15, nX6_left_lowest, h14, nX6_left_credit, h13, nX6_left_cost, h12, nX6_left_built, h11, nX6_left_most, h10, nX6_left_many, h9, nX6_left_root, h8, nX6_left_sights, h7, nX6_left_log, h6, nX6_left_values, h5, nX6_left_kinds, h4, nX6_left_there, h3, nX6_left_above, h2, nX6_left_right, h1, nX6_left_left]
  have m_right : gX6_right S17 = g2 := by rw [h17, nX6_right_seenMany, h16, nX6_right_logMany, h15, nX6_right_lowest, h14, nX6_right_credit, h13, nX6_right_cost, h12, nX6_right_built, h11, nX6_right_most, h10, nX6_right_many, h9, nX6_right_root, h8, nX6_right_sights, h7, nX6_right_log, h6, nX6_right_values, h5, nX6_right_kinds, h4, nX6_right_there, h3, nX6_right_above, h2, nX6_right_right]
  have m_above : gX6_above S17 = g3 := by rw [h17, nX6_above_seenMany, h16, nX6_above_logMany, h15, nX6_above_lowest, h14, nX6_above_credit, h13, nX6_above_cost, h12, nX6_above_built, h11, nX6_above_most, h10, nX6_above_many, h9, nX6_above_root, h8, nX6_above_sights, h7, nX6_above_log, h6, nX6_above_values, h5, nX6_above_kinds, h4, nX6_above_there, h3, nX6_above_above]
  have m_there : gX6_there S17 = g4 := by rw [h17, nX6_there_seenMany, h16, nX6_there_logMany, h15, nX6_there_lowest, h14, nX6_there_credit, h13, nX6_there_cost, h12, nX6_there_built, h11, nX6_there_most, h10, nX6_there_many, h9, nX6_there_root, h8, nX6_there_sights, h7, nX6_there_log, h6, nX6_there_values, h5, nX6_there_kinds, h4, nX6_there_there]
  have m_kinds : gX6_kinds S17 = g5 := by rw [h17, nX6_kinds_seenMany, h16, nX6_kinds_logMany, h15, nX6_kinds_lowest, h14, nX6_kinds_credit, h13, nX6_kinds_cost, h12, nX6_kinds_built, h11, nX6_kinds_most, h10, nX6_kinds_many, h9, nX6_kinds_root, h8, nX6_kinds_sights, h7, nX6_kinds_log, h6, nX6_kinds_values, h5, nX6_kinds_kinds]
  have m_values : gX6_values S17 = g6 := by rw [h17, nX6_values_seenMany, h16, nX6_values_logMany, h15, nX6_values_lowest, h14, nX6_values_credit, h13, nX6_values_cost, h12, nX6_values_built, h11, nX6_values_most, h10, nX6_values_many, h9, nX6_values_root, h8, nX6_values_sights, h7, nX6_values_log, h6, nX6_values_values]
  have m_log : gX6_log S17 = g7 := by rw [h17, nX6_log_seenMany, h16, nX6_log_logMany, h15, nX6_log_lowest, h14, nX6_log_credit, h13, nX6_log_cost, h12, nX6_log_built, h11, nX6_log_most, h10, nX6_log_many, h9, nX6_log_root, h8, nX6_log_sights, h7, nX6_log_log]
  have m_sights : gX6_sights S17 = g8 := by rw [h17, nX6_sights_seenMany, h16, nX6_sights_logMany, h15, nX6_sights_lowest, h14, nX6_sights_credit, h13, nX6_sights_cost, h12, nX6_sights_built, h11, nX6_sights_most, h10, nX6_sights_many, h9, nX6_sights_root, h8, nX6_sights_sights]
  have m_root : gX6_root S17 = upd (gX6_root S8) (ii 0).toNatClampNeg (gX6_keptRoot M) := by rw [h17, nX6_root_seenMany, h16, nX6_root_logMany, h15, nX6_root_lowest, h14, nX6_root_credit, h13, nX6_root_cost, h12, nX6_root_built, h11, nX6_root_most, h10, nX6_root_many, h9, nX6_root_root, onR_keptRoot o8]
  have m_many : gX6_many S17 = upd (gX6_many S9) (ii 0).toNatClampNeg (gX6_keptMany M) := by rw [h17, nX6_many_seenMany, h16, nX6_many_logMany, h15, nX6_many_lowest, h14, nX6_many_credit, h13, nX6_many_cost, h12, nX6_many_built, h11, nX6_many_most, h10, nX6_many_many, onR_keptMany o9]
  have m_most : gX6_most S17 = upd (gX6_most S10) (ii 0).toNatClampNeg (gX6_keptMost M) := by rw [h17, nX6_most_seenMany, h16, nX6_most_logMany, h15, nX6_most_lowest, h14, nX6_most_credit, h13, nX6_most_cost, h12, nX6_most_built, h11, nX6_most_most, onR_keptMost o10]
  have m_built : gX6_built S17 = upd (gX6_built S11) (ii 0).toNatClampNeg (gX6_keptBuilt M) := by rw [h17, nX6_built_seenMany, h16, nX6_built_logMany, h15, nX6_built_lowest, h14, nX6_built_credit, h13, nX6_built_cost, h12, nX6_built_built, onR_keptBuilt o11]
  have m_cost : gX6_cost S17 = upd (gX6_cost S12) (ii 0).toNatClampNeg (gX6_keptCost M) := by rw [h17, nX6_cost_seenMany, h16, nX6_cost_logMany, h15, nX6_cost_lowest, h14, nX6_cost_credit, h13, nX6_cost_cost, onR_keptCost o12]
  have m_credit : gX6_credit S17 = gX6_keptCredit M := by rw [h17, nX6_credit_seenMany, h16, nX6_credit_logMany, h15, nX6_credit_lowest, h14, nX6_credit_credit, onR_keptCredit o13]
  have m_lowest : gX6_lowest S17 = gX6_keptLowest M := by rw [h17, nX6_lowest_seenMany, h16, nX6_lowest_logMany, h15, nX6_lowest_lowest, onR_keptLowest o14]
  have m_logMany : gX6_logMany S17 = gX6_keptLogMany M := by rw [h17, nX6_logMany_seenMany, h16, nX6_logMany_logMany, onR_keptLogMany o15]
  have m_seenMany : gX6_seenMany S17 = gX6_keptSeen M := by rw [h17, nX6_seenMany_seenMany, onR_keptSeen o16]
  refine ⟨S17, ?_, ?_, ?_, onR_keptShelf o17, onR_shelvesRead o17, onR_page o17, onR_pageMany o17⟩
  · unfold fX6_restore
    rw [if_pos hk]
    simp only [ii_l0]
    rw [cv_bd_eq c1, cv_lt_eq, ← h1]
    rw [cv_bd_eq c2, cv_lt_eq, ← h2]
    rw [cv_bd_eq c3, cv_lt_eq, ← h3]
    rw [cv_bd_eq c4, cv_lt_eq, ← h4]
    rw [cv_bd_eq c5, cv_lt_eq, ← h5]
    rw [cv_bd_eq c6, cv_lt_eq, ← h6]
    rw [cv_bd_eq c7, cv_lt_eq, ← h7]
    rw [cv_bd_eq c8, cv_lt_eq, ← h8]
    rw [cv_gd_pos gt, cv_lt_eq, ← h9]
    rw [cv_gd_pos gt, cv_lt_eq, ← h10]
    rw [cv_gd_pos gt, cv_lt_eq, ← h11]
    rw [cv_gd_pos gt, cv_lt_eq, ← h12]
    rw [cv_gd_pos gt, cv_lt_eq, ← h13]
    rw [cv_lt_eq, ← h14]
    rw [cv_lt_eq, ← h15]
    rw [cv_lt_eq, ← h16]
    rw [cv_lt_eq, ← h17]
    rw [cv_gd_pos gt, m_many, upd_1]
  · refine ⟨⟨fun k k0 k1 => ⟨?_, ?_, ?_, ?_⟩, ?_, ?_⟩, ⟨?_, ?_, ?_, ?_, ?_⟩, fun k k0 k1 => ⟨?_, ?_⟩, ⟨?_, ?_, ?_⟩, fun k k0 k1 => ?_, ⟨?_, ?_⟩, fun k k0 k1 => ?_⟩
    · rw [kr_left, m_left, d1 k k0 (by omega)]
    · rw [kr_right, m_right, d2 k k0 (by omega), onR_keptRight o1]
    · rw [kr_above, m_above, d3 k k0 (by omega), onR_keptAbove o2]
    · rw [kr_there, m_there, d4 k k0 (by omega), onR_keptThere o3]
    · rw [kr_root, m_root, rd_u0, rd_u0]
    · rw [kr_many, m_many, rd_u0, rd_u0]
    · rw [kr_most, m_most, upd_1, upd_1]
    · rw [kr_built, m_built, upd_1, upd_1]
    · rw [kr_cost, m_cost, upd_1, upd_1]
    · rw [kr_credit, m_credit]
    · rw [kr_lowest, m_lowest]
    · rw [kr_kinds, m_kinds, d5 k k0 (by omega), onR_keptKinds o4]
    · rw [kr_values, m_values, d6 k k0 (by omega), onR_keptValues o5]
    · rw [kr_ratioA, onR_ratioA o17]
    · rw [kr_ratioB, onR_ratioB o17]
    · rw [kr_fee, onR_fee o17]
    · rw [kr_log, m_log, d7 k k0 (by omega), onR_keptLog o6]
    · rw [kr_logMany, m_logMany]
    · rw [kr_seenMany, m_seenMany]
    · rw [kr_sights, m_sights, d8 k k0 (by omega), onR_keptSights o7]
  · unfold okp
    rw [onR_ratioA o17, onR_ratioB o17, onR_fee o17, onR_keptRoot o17, onR_keptMany o17, onR_keptMost o17, onR_keptBuilt o17, onR_keptCost o17, onR_keptCredit o17, onR_keptLowest o17, onR_keptLogMany o17, onR_keptSeen o17, onR_keptLeft o17, onR_keptRight o17, onR_keptAbove o17, onR_keptThere o17, onR_keptKinds o17, onR_keptValues o17, onR_keptLog o17, onR_keptSights o17]
theorem B_image (hn : 0 ≤ n ∧ n ≤ 10000) (h : Inv n C M) : ∃ r C' M', fX5_image C = some (r, C') ∧ fX6_image M = some (r, M') ∧ Inv n C' M' := by
  have hI := h
  obtain ⟨o, g_, P, r, q', h1, h2, h3, h4, h5⟩ := h
  obtain ⟨v, a, b, m, d, c, f, x, y, xs, q, hs⟩ := id h4
  unfold fX5_image
  rw [h1.1]
  cases o with
  | false =>
    refine ⟨_, C, M, if_pos fgF, ?_, hI⟩
    unfold fX6_image
    rw [cv_bd_eq (lacksF hs), if_neg z1_]
  | true =>
    obtain ⟨M', e1, e2, e3, e4, e5, e6, e7⟩ := image6 (lacksT hs)
    obtain ⟨K', k1, k2⟩ := sr_copy (gX5_kept C) h4
    rw [many6 hs.1.2.1] at e1
    rw [if_neg fgT, cv_bd_eq k1]
    refine ⟨ii (sz v), sX5_imaged (sX5_kept C K') (ii 1), M', ?_, e1, true, true, P, r, r, ⟨h1.1, rfl⟩, ?_, ⟨h3.1, e5.trans h3.2.1, (e4.trans h3.2.1), h3.2.2.2.1, h3.2.2.2.2.1, by have := h3.2.2.2.1; omega, by omega, by simp, fun _ => rfl⟩, sr_eqv h4 e3, fun _ => sr_eqv k2 e2⟩
    · show some (gX4_number (gX3_tree (gX5_now C)), _) = _
      rw [hs.1.1.2.2.2.2.2.2]
      rfl
    · rw [e6, e7]; exact h2
theorem B_restore (hn : 0 ≤ n ∧ n ≤ 10000) (h : Inv n C M) : ∃ r C' M', fX5_restore C = some (r, C') ∧ fX6_restore M = some (r, M') ∧ Inv n C' M' := by
  have hI := h
  obtain ⟨o, g_, P, r, q', h1, h2, h3, h4, h5⟩ := h
  unfold fX5_restore
  rw [h1.2]
  obtain ⟨e1, e2, e3, e4, e5, e6, e7, e8, e9⟩ := h3
  cases g_ with
  | false =>
    refine ⟨_, C, M, if_pos fgF, ?_, hI⟩
    unfold fX6_restore
    rw [e2, e3, if_neg (fun z => ?_)]
    have := (ii_eq (by omega) (by omega) (by omega) (by omega)).mp z
    exact absurd (e8.mpr this) (by decide)
  | true =>
    have hq := e8.mp rfl
    have ho := e9 rfl
    subst ho
    obtain ⟨M', f1, f2, f3, f4, f5, f6, f7⟩ := restore6 (M := M) (by rw [e2, e3, hq])
    have hk := sr_eqv (h5 rfl) f2
    obtain ⟨S', k1, k2⟩ := sr_copy (gX5_now C) hk
    obtain ⟨v, a, b, m, d, c, f, x, y, xs, q, hs⟩ := id k2
    have hm := many6 hs.1.2.1
    have hkm : gX6_keptMany M = ii (sz v) := by
      have z := f2.1.2.2
      have z2 : rd (gX6_many (kr6 M)) 0 = (gX6_keptMany M).toInt := by rw [kr_many]; exact rd_u0 (gX6_many M) (gX6_keptMany M)
      obtain ⟨_, _, _, L, R, U, H, ha, _⟩ := hs.1.2.1
      rw [z2, ha.2.2.2.2.2] at z
      rw [← ii_of (gX6_keptMany M), ← z]
    rw [if_neg fgT, cv_bd_eq k1]
    refine ⟨ii (sz v), sX5_now C S', M', ?_, by rw [f1, hkm], true, true, P, r, q', ⟨h1.1, h1.2⟩, ?_, ⟨e1, f5.trans e2, f4.trans e3, e4, e5, e6, e7, e8, e9⟩, k2, fun _ => sr_eqv (h5 rfl) (kr_eqv2 f3)⟩
    · show some (gX4_number (gX3_tree S'), _) = _
      rw [hs.1.1.2.2.2.2.2.2]
    · rw [f6, f7]; exact h2
end
