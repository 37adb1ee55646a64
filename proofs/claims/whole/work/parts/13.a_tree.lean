/-! the class's tree: what its small methods answer -/
theorem fX4_has_eq (T : SX4) {k : Int} (h1 : -2147483648 ≤ k) (h2 : k < 2147483648) : fX4_has T (ii k) = some (if 0 ≤ k ∧ k < 100 ∧ 0 < rd (gX4_sizes T) k then ii 1 else ii 0) := by
  unfold fX4_has cv_gd
  simp (disch := omega) only [ii_l0, ii_l1, ii_l2, ii_l40, ii_l100, ii_neg, ii_lt, ii_le, ii_toInt]
  by_cases h3 : k < 0
  · rw [if_pos h3, if_neg (by omega)]
  · rw [if_neg h3]
    by_cases h4 : 100 ≤ k
    · rw [if_pos h4, if_neg (by omega)]
    · have q1 := rd_lo (gX4_sizes T) k
      have q2 := rd_hi (gX4_sizes T) k
      rw [if_neg h4, if_pos ⟨by omega, by omega⟩, qX4_sizes _ (by omega) (by omega)]
      simp (disch := omega) only [ii_le]
      by_cases h5 : rd (gX4_sizes T) k ≤ 0
      · rw [if_pos h5, if_neg (by omega)]
      · rw [if_neg h5, if_pos ⟨by omega, by omega, by omega⟩]
theorem fX4_isFull_eq (T : SX4) {n : Int} (hn : gX4_number T = ii n) (h1 : -2147483648 ≤ n) (h2 : n < 2147483648) : fX4_isFull T = some (if 40 ≤ n then ii 1 else ii 0) := by
  unfold fX4_isFull
  rw [hn]
  simp (disch := omega) only [ii_l0, ii_l1, ii_l2, ii_l40, ii_l100, ii_neg, ii_lt, ii_le]
  split <;> split <;> first | rfl | omega
theorem fX4_onWay_eq (T : SX4) {p : Int} (h1 : -2147483648 ≤ p) (h2 : p < 2147483648) : fX4_onWay T (ii p) = some (if 0 ≤ p ∧ p < 40 then ii (rd (gX4_way T) p) else ii (-1)) := by
  unfold fX4_onWay cv_gd
  simp (disch := omega) only [ii_l0, ii_l1, ii_l2, ii_l40, ii_l100, ii_neg, ii_lt, ii_le, ii_toInt]
  by_cases h3 : p < 0
  · rw [if_pos h3, if_neg (by omega)]
  · rw [if_neg h3]
    by_cases h4 : 40 ≤ p
    · rw [if_pos h4, if_neg (by omega)]
    · rw [if_neg h4, if_pos ⟨by omega, by omega⟩, if_pos ⟨by omega, by omega⟩, qX4_way _ (by omega) (by omega)]
