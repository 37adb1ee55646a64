/-! both: the letters of THE PAGE, judged -/
def kb (c : Int) : Int := if c = 99 then 2 else if c = 102 then 3 else if c = 108 then 1 else if c = 110 then 0 else if c = 115 then 4 else -1
theorem kb_in (c : Int) : kb c = -1 ∨ (0 ≤ kb c ∧ kb c ≤ 4) := by
  unfold kb
  by_cases h1 : c = 99
  · rw [if_pos h1]; omega
  · rw [if_neg h1]
    by_cases h2 : c = 102
    · rw [if_pos h2]; omega
    · rw [if_neg h2]
      by_cases h3 : c = 108
      · rw [if_pos h3]; omega
      · rw [if_neg h3]
        by_cases h4 : c = 110
        · rw [if_pos h4]; omega
        · rw [if_neg h4]
          by_cases h5 : c = 115
          · rw [if_pos h5]; omega
          · rw [if_neg h5]; omega
def dgt (c : Int) : Prop := 48 ≤ c ∧ c ≤ 57
def pgd (F : Int → Int) (i : Int) : Prop := (i = 0 → 50 ≤ F 0 ∧ F 0 ≤ 52) ∧ (i = 1 → rat (F 0 - 48) (F 1 - 48)) ∧ (i = 3 → 49 ≤ F 3 ∧ F 3 ≤ 57) ∧ (∀ e, 0 ≤ e → i = 5 + 6 * e → kb (F i) ≠ -1) ∧ (∀ e, 0 ≤ e → i = 6 + 6 * e → dgt (F i)) ∧ (∀ e, 0 ≤ e → i = 7 + 6 * e → dgt (F i) ∧ ∀ j, 0 ≤ j → j < e → ¬ (F (6 + 6 * j) = F (6 + 6 * e) ∧ F (7 + 6 * j) = F (7 + 6 * e))) ∧ (∀ e, 0 ≤ e → i = 9 + 6 * e → dgt (F i))
theorem idx_all : ∀ c : Nat, c < 127 → fJ0_indexOf_0f7a4 (((ii c).toUInt32 % 65536).toInt32) = some (ii (kb c)) := by decide +kernel
theorem kindBy_all : ∀ c : Nat, c < 127 → fX6_kindBy (ii c) = some (ii (kb c)) := by decide +kernel
theorem z01 : ii 0 = (0 : Int32) ∨ ii 0 = (1 : Int32) := Or.inl rfl
theorem z11 : ii 1 = (0 : Int32) ∨ ii 1 = (1 : Int32) := Or.inr rfl
theorem md5 {i e q : Int} (hi : i = 5 + 6 * e + q) (e0 : 0 ≤ e) (e1 : e < 100) (q0 : 0 ≤ q) (q1 : q < 6) : (ii i - 5) / 6 = ii e := by
  rw [ii_l5, ii_l6, ii_sub, ii_div (by omega) (by omega) (by omega) (by omega), show (i - 5) / 6 = e by omega]
theorem md6 {i e q : Int} (hi : i = 5 + 6 * e + q) (e0 : 0 ≤ e) (e1 : e < 100) (q0 : 0 ≤ q) (q1 : q < 6) : (ii i - 5) - (ii i - 5) / 6 * 6 = ii q := by
  rw [md5 hi e0 e1 q0 q1, ii_l5, ii_l6, ii_mul, ii_sub, ii_sub, show i - 5 - e * 6 = q by omega]
section
variable {p : SX1} {M : SX6} {P : Int}
theorem code1 (h : pgR p (gX6_page M) (gX6_pageMany M) P) {j : Int} (j0 : 0 ≤ j) (j1 : j < P) : fX1_code p (ii j) = some (ii (rd (gX6_page M) j)) := by
  obtain ⟨p1, p2, p3, p4, p5⟩ := h
  unfold fX1_code
  rw [p1, if_neg (show ¬ ii j < 0 from n_lt (c := 0) (by omega) (by omega) (by omega) (by omega) (by omega)), if_neg (n_le (by omega) (by omega) (by omega) (by omega) (by omega)), cv_gd_pos (ii_in (k := j) (n := 54) j0 (by omega) (by omega)), rd_ii (gX1_letters p) j0 (by omega), (p5 j j0 j1).1]
theorem digit1 (h : pgR p (gX6_page M) (gX6_pageMany M) P) {j : Int} (j0 : 0 ≤ j) (j1 : j < P) : fX1_digit p (ii j) = some (ii (rd (gX6_page M) j - 48)) := by
  unfold fX1_digit
  rw [cv_bd_eq (code1 h j0 j1), ii_l48, ii_sub]
theorem isDigit1 (h : pgR p (gX6_page M) (gX6_pageMany M) P) {j : Int} (j0 : 0 ≤ j) (j1 : j < P) : fX1_isDigit p (ii j) = some (if 48 ≤ rd (gX6_page M) j ∧ rd (gX6_page M) j ≤ 57 then ii 1 else ii 0) := by
  have q := h.2.2.2.2 j j0 j1
  unfold fX1_isDigit
  rw [cv_bd_eq (code1 h j0 j1), cv_bd_eq (code1 h j0 j1)]
  by_cases c1 : rd (gX6_page M) j < 48
  · rw [if_pos (show ii (rd (gX6_page M) j) < 48 from p_lt (c := 48) (by omega) (by omega) (by omega) (by omega) c1), if_neg (by omega)]; rfl
  · rw [if_neg (show ¬ ii (rd (gX6_page M) j) < 48 from n_lt (c := 48) (by omega) (by omega) (by omega) (by omega) c1)]
    by_cases c2 : 57 < rd (gX6_page M) j
    · rw [if_pos (show (57 : Int32) < ii (rd (gX6_page M) j) from p_lt (k := 57) (by omega) (by omega) (by omega) (by omega) c2), if_neg (by omega)]; rfl
    · rw [if_neg (show ¬ (57 : Int32) < ii (rd (gX6_page M) j) from n_lt (k := 57) (by omega) (by omega) (by omega) (by omega) c2), if_pos (by omega)]; rfl
theorem kindOf1 (h : pgR p (gX6_page M) (gX6_pageMany M) P) {e : Int} (e0 : 0 ≤ e) (e1 : 5 + 6 * e < P) : fX1_kindOf p (ii e) = some (ii (kb (rd (gX6_page M) (5 + 6 * e)))) := by
  have q := h.2.2.2.2 (5 + 6 * e) (by omega) e1
  have c1 := code1 h (j := 5 + 6 * e) (by omega) e1
  obtain ⟨k, hk⟩ : ∃ k : Nat, rd (gX6_page M) (5 + 6 * e) = k := ⟨(rd (gX6_page M) (5 + 6 * e)).toNat, by omega⟩
  unfold fX1_kindOf
  rw [ii_l5, ii_l6, ii_mul, ii_add, show 5 + e * 6 = 5 + 6 * e by omega, cv_bd_eq c1, hk, cv_bd_eq (idx_all k (by omega))]
theorem kindBy6 (h : pgR p (gX6_page M) (gX6_pageMany M) P) {i : Int} (i0 : 0 ≤ i) (i1 : i < P) : fX6_kindBy (ii (rd (gX6_page M) i)) = some (ii (kb (rd (gX6_page M) i))) := by
  have q := h.2.2.2.2 i i0 i1
  obtain ⟨k, hk⟩ : ∃ k : Nat, rd (gX6_page M) i = k := ⟨(rd (gX6_page M) i).toNat, by omega⟩
  rw [hk]
  exact kindBy_all k (by omega)
theorem keyAt6 (h : pgR p (gX6_page M) (gX6_pageMany M) P) {j : Int} (j0 : 0 ≤ j) (j1 : j + 1 < P) : fX6_keyAt M (ii j) = some (ii (10 * (rd (gX6_page M) j - 48) + rd (gX6_page M) (j + 1) - 48)) := by
  have := h.2.2.2.1
  unfold fX6_keyAt
  rw [ii_l1, ii_l10, ii_l48, ii_add, cv_gd_pos (ii_in (k := j) (n := 54) j0 (by omega) (by omega)), cv_gd_pos (ii_in (k := j + 1) (n := 54) (by omega) (by omega) (by omega)), rd_ii (gX6_page M) (k := j) j0 (by omega), rd_ii (gX6_page M) (k := j + 1) (by omega) (by omega), ii_sub, ii_mul, ii_add, ii_sub]
theorem keyOf1 (h : pgR p (gX6_page M) (gX6_pageMany M) P) {e : Int} (e0 : 0 ≤ e) (e1 : 7 + 6 * e < P) : fX1_keyOf p (ii e) = some (ii (10 * (rd (gX6_page M) (6 + 6 * e) - 48) + (rd (gX6_page M) (7 + 6 * e) - 48))) := by
  have c1 := digit1 h (j := 6 + 6 * e) (by omega) (by omega)
  have c2 := digit1 h (j := 7 + 6 * e) (by omega) (by omega)
  unfold fX1_keyOf
  rw [cv_lt_eq, ii_l5, ii_l6, ii_l1, ii_l2, ii_mul, ii_add, ii_add, ii_add, show 5 + e * 6 + 1 = 6 + 6 * e by omega, show 5 + e * 6 + 2 = 7 + 6 * e by omega, cv_bd_eq c1, cv_bd_eq c2, ii_l10, ii_mul, ii_add]
theorem valueOf1 (h : pgR p (gX6_page M) (gX6_pageMany M) P) {e : Int} (e0 : 0 ≤ e) (e1 : 9 + 6 * e < P) : fX1_valueOf p (ii e) = some (ii (rd (gX6_page M) (9 + 6 * e) - 48)) := by
  have c1 := digit1 h (j := 9 + 6 * e) (by omega) (by omega)
  unfold fX1_valueOf
  rw [ii_l5, ii_l6, ii_l4, ii_mul, ii_add, ii_add, show 5 + e * 6 + 4 = 9 + 6 * e by omega, cv_bd_eq c1]
theorem told1 {e : Int} (e1 : 7 + 6 * e < 54) : ∀ (m n : Nat) (j : Int), 0 ≤ j → j + m = e → m < n → fX6_isTold_L5 M (ii (7 + 6 * e)) n (ii 1) (ii (6 + 6 * j)) = some (ii 1)
  | 0, n, j, j0, jm, hn => by
    obtain ⟨n, rfl⟩ : ∃ m, n = m + 1 := ⟨n - 1, by omega⟩
    unfold fX6_isTold_L5
    rw [ii_l1, ii_add, if_pos (p_le (by omega) (by omega) (by omega) (by omega) (by omega))]
  | m + 1, n, j, j0, jm, hn => by
    obtain ⟨n, rfl⟩ : ∃ m, n = m + 1 := ⟨n - 1, by omega⟩
    have ih := told1 e1 m n (j + 1) (by omega) (by omega) (by omega)
    unfold fX6_isTold_L5
    rw [if_neg z1_, ii_l1, ii_l6, ii_add, if_neg (n_le (by omega) (by omega) (by omega) (by omega) (by omega)), cv_bd_some, cv_lt_eq, ii_add, show 6 + 6 * j + 6 = 6 + 6 * (j + 1) by omega]
    exact ih
theorem newTold (h : pgR p (gX6_page M) (gX6_pageMany M) P) {e : Int} (e1 : 7 + 6 * e < P) (hd : ∀ j, 0 ≤ j → j ≤ e → dgt (rd (gX6_page M) (6 + 6 * j)) ∧ dgt (rd (gX6_page M) (7 + 6 * j))) : ∀ (m n1 n2 : Nat) (j : Int), 0 ≤ j → j + m = e → m < n1 → m < n2 → ∃ r : Int, (r = 0 ∨ r = 1) ∧ fX1_isNewKey_L9 p (ii e) (ii (5 + 6 * e)) n1 (ii j) = some (ii r) ∧ fX6_isTold_L5 M (ii (7 + 6 * e)) n2 (ii 0) (ii (6 + 6 * j)) = some (ii (1 - r)) ∧ (r = 1 → ∀ i, j ≤ i → i < e → ¬ (rd (gX6_page M) (6 + 6 * i) = rd (gX6_page M) (6 + 6 * e) ∧ rd (gX6_page M) (7 + 6 * i) = rd (gX6_page M) (7 + 6 * e)))
  | 0, n1, n2, j, j0, jm, h1, h2 => by
    obtain ⟨n1, rfl⟩ : ∃ m, n1 = m + 1 := ⟨n1 - 1, by omega⟩
    obtain ⟨n2, rfl⟩ : ∃ m, n2 = m + 1 := ⟨n2 - 1, by omega⟩
    have hP := h.2.2.2.1
    refine ⟨1, Or.inr rfl, ?_, ?_, fun _ i a b => by omega⟩
    · unfold fX1_isNewKey_L9
      rw [if_pos (p_le (by omega) (by omega) (by omega) (by omega) (by omega))]; rfl
    · unfold fX6_isTold_L5
      rw [ii_l1, ii_add, if_pos (p_le (by omega) (by omega) (by omega) (by omega) (by omega))]; rfl
  | m + 1, n1, n2, j, j0, jm, h1, h2 => by
    obtain ⟨n1, rfl⟩ : ∃ m, n1 = m + 1 := ⟨n1 - 1, by omega⟩
    obtain ⟨n2, rfl⟩ : ∃ m, n2 = m + 1 := ⟨n2 - 1, by omega⟩
    have hP := h.2.2.2.1
    have d1 := hd j j0 (by omega)
    have d2 := hd e (by omega) (by omega)
    unfold dgt at d1 d2
    have c1 := code1 h (j := 6 + 6 * j) (by omega) (by omega)
    have c2 := code1 h (j := 6 + 6 * e) (by omega) (by omega)
    have c3 := code1 h (j := 7 + 6 * j) (by omega) (by omega)
    have c4 := code1 h (j := 7 + 6 * e) (by omega) (by omega)
    have k1 := keyAt6 h (j := 6 + 6 * j) (by omega) (by omega)
    have k2 := keyAt6 h (j := 6 + 6 * e) (by omega) (by omega)
    rw [show 6 + 6 * j + 1 = 7 + 6 * j by omega] at k1
    rw [show 6 + 6 * e + 1 = 7 + 6 * e by omega] at k2
    obtain ⟨f1, g1⟩ : ∃ x, x = rd (gX6_page M) (6 + 6 * j) := ⟨_, rfl⟩
    obtain ⟨f2, g2⟩ : ∃ x, x = rd (gX6_page M) (7 + 6 * j) := ⟨_, rfl⟩
    obtain ⟨f3, g3⟩ : ∃ x, x = rd (gX6_page M) (6 + 6 * e) := ⟨_, rfl⟩
    obtain ⟨f4, g4⟩ : ∃ x, x = rd (gX6_page M) (7 + 6 * e) := ⟨_, rfl⟩
    rw [← g1, ← g2] at d1 k1
    rw [← g3, ← g4] at d2 k2
    rw [← g1] at c1
    rw [← g2] at c3
    rw [← g3] at c2
    rw [← g4] at c4
    have A : fX1_isNewKey_L9 p (ii e) (ii (5 + 6 * e)) (n1 + 1) (ii j) = if f1 = f3 ∧ f2 = f4 then some (ii 0) else fX1_isNewKey_L9 p (ii e) (ii (5 + 6 * e)) n1 (ii (j + 1)) := by
      rw [fX1_isNewKey_L9]
      rw [if_neg (n_le (by omega) (by omega) (by omega) (by omega) (by omega))]
      simp only [cv_lt_eq, ii_l1, ii_l2, ii_l5, ii_l6, ii_mul, ii_add]
      rw [show 5 + j * 6 + 1 = 6 + 6 * j by omega, show 5 + j * 6 + 2 = 7 + 6 * j by omega, show 5 + 6 * e + 1 = 6 + 6 * e by omega, show 5 + 6 * e + 2 = 7 + 6 * e by omega, cv_bd_eq c1, cv_bd_eq c2, cv_bd_eq c3, cv_bd_eq c4]
      by_cases z1 : f1 = f3
      · rw [if_pos (show ii f1 = ii f3 by rw [z1])]
        by_cases z2 : f2 = f4
        · rw [if_pos (show ii f2 = ii f4 by rw [z2]), if_pos ⟨z1, z2⟩]; rfl
        · rw [if_neg (i_ne (by omega) (by omega) (by omega) (by omega) z2), if_neg (fun t => z2 t.2)]
      · rw [if_neg (i_ne (by omega) (by omega) (by omega) (by omega) z1), if_neg (fun t => z1 t.1)]
    have B : fX6_isTold_L5 M (ii (7 + 6 * e)) (n2 + 1) (ii 0) (ii (6 + 6 * j)) = if f1 = f3 ∧ f2 = f4 then fX6_isTold_L5 M (ii (7 + 6 * e)) n2 (ii 1) (ii (6 + 6 * (j + 1))) else fX6_isTold_L5 M (ii (7 + 6 * e)) n2 (ii 0) (ii (6 + 6 * (j + 1))) := by
      rw [fX6_isTold_L5]
      rw [if_pos z0_]
      simp only [cv_lt_eq, ii_l1, ii_l6, ii_add, ii_sub]
      rw [if_neg (n_le (by omega) (by omega) (by omega) (by omega) (by omega)), show 7 + 6 * e - 1 = 6 + 6 * e by omega, show 6 + 6 * j + 6 = 6 + 6 * (j + 1) by omega, cv_bd_eq k1, cv_bd_eq k2]
      by_cases z : f1 = f3 ∧ f2 = f4
      · rw [if_pos z, if_pos (show ii (10 * (f1 - 48) + f2 - 48) = ii (10 * (f3 - 48) + f4 - 48) by rw [z.1, z.2]), cv_bd_some]
      · rw [if_neg z, if_neg (i_ne (by omega) (by omega) (by omega) (by omega) (by omega)), cv_bd_some]; rfl
    rw [A, B]
    by_cases z : f1 = f3 ∧ f2 = f4
    · rw [if_pos z, if_pos z, told1 (by omega) m n2 (j + 1) (by omega) (by omega) (by omega)]
      exact ⟨0, Or.inl rfl, rfl, rfl, fun t => by omega⟩
    · rw [if_neg z, if_neg z]
      obtain ⟨r, r1, r2, r3, r4⟩ := newTold h e1 hd m n1 n2 (j + 1) (by omega) (by omega) (by omega) (by omega)
      refine ⟨r, r1, r2, r3, fun t i a b => ?_⟩
      by_cases y : i = j
      · rw [y, ← g1, ← g2, ← g3, ← g4]; exact z
      · exact r4 t i (by omega) b
theorem newKey1 (e : Int) : fX1_isNewKey p (ii e) = fX1_isNewKey_L9 p (ii e) (ii (5 + 6 * e)) 256 (ii 0) := by
  unfold fX1_isNewKey
  rw [cv_lt_eq, ii_l5, ii_l6, ii_mul, ii_add, show 5 + e * 6 = 5 + 6 * e by omega]; rfl
def fx (p : SX1) (M : SX6) (e q i : Int) (K : Prop) : Prop := ∃ r : Int, (r = 0 ∨ r = 1) ∧ fX1_fitsEntry p (ii e) (ii q) (ii i) = some (ii r) ∧ fX6_isEntrySign M (ii i) = some (ii r) ∧ (r = 1 → K)
theorem en0 (h : pgR p (gX6_page M) (gX6_pageMany M) P) {i e : Int} (hi : i = 5 + 6 * e + 0) (e0 : 0 ≤ e) (i1 : i < P) : fx p M e 0 i (kb (rd (gX6_page M) i) ≠ -1) := by
  have hP := h.2.2.2.1
  have kr := kb_in (rd (gX6_page M) i)
  have K1 := kindOf1 h e0 (by omega)
  rw [show 5 + 6 * e = i by omega] at K1
  have K2 := kindBy6 h (i := i) (by omega) i1
  have gg := ii_in (k := i) (n := 54) (by omega) (by omega) (by omega)
  by_cases z : kb (rd (gX6_page M) i) = -1
  · refine ⟨0, Or.inl rfl, ?_, ?_, fun t => by omega⟩
    · unfold fX1_fitsEntry
      rw [if_pos z0_, cv_bd_eq K1, z, if_pos (show ii (-1) < 0 by decide)]; rfl
    · unfold fX6_isEntrySign
      rw [cv_gd_pos gg, cv_lt_eq, cv_lt_eq, md6 hi e0 (by omega) (by omega) (by omega), if_pos z0_, rd_ii (gX6_page M) (k := i) (by omega) (by omega), cv_bd_eq K2, z, if_pos (show ii (-1) = (-1 : Int32) by decide)]; rfl
  · refine ⟨1, Or.inr rfl, ?_, ?_, fun _ => z⟩
    · unfold fX1_fitsEntry
      rw [if_pos z0_, cv_bd_eq K1, if_neg (show ¬ ii (kb (rd (gX6_page M) i)) < 0 from n_lt (c := 0) (by omega) (by omega) (by omega) (by omega) (by omega))]; rfl
    · unfold fX6_isEntrySign
      rw [cv_gd_pos gg, cv_lt_eq, cv_lt_eq, md6 hi e0 (by omega) (by omega) (by omega), if_pos z0_, rd_ii (gX6_page M) (k := i) (by omega) (by omega), cv_bd_eq K2, if_neg (show ¬ ii (kb (rd (gX6_page M) i)) = (-1 : Int32) from i_ne (b := -1) (by omega) (by omega) (by omega) (by omega) z)]; rfl
theorem en1 (h : pgR p (gX6_page M) (gX6_pageMany M) P) {i e : Int} (hi : i = 5 + 6 * e + 1) (e0 : 0 ≤ e) (i1 : i < P) : fx p M e 1 i (dgt (rd (gX6_page M) i)) := by
  have hP := h.2.2.2.1
  have q := h.2.2.2.2 i (by omega) i1
  have K1 := isDigit1 h (j := i) (by omega) i1
  have K2 := in6 (k := rd (gX6_page M) i) (lo := 48) (hi := 57) (x := 48) (y := 57) (by omega) (by omega) rfl rfl
  have gg := ii_in (k := i) (n := 54) (by omega) (by omega) (by omega)
  by_cases z : 48 ≤ rd (gX6_page M) i ∧ rd (gX6_page M) i ≤ 57
  · rw [if_pos z] at K1 K2
    refine ⟨1, Or.inr rfl, ?_, ?_, fun t => z⟩
    · unfold fX1_fitsEntry
      rw [if_neg z1_, if_pos (show ii 1 = (1 : Int32) from rfl), cv_bd_eq K1, cv_gd_pos z11]
    · unfold fX6_isEntrySign
      rw [cv_gd_pos gg, cv_lt_eq, cv_lt_eq, md6 hi e0 (by omega) (by omega) (by omega), if_neg z1_, if_pos (show ii 1 = (1 : Int32) from rfl), rd_ii (gX6_page M) (k := i) (by omega) (by omega), cv_bd_eq K2, cv_gd_pos z11]
  · rw [if_neg z] at K1 K2
    refine ⟨0, Or.inl rfl, ?_, ?_, fun t => by omega⟩
    · unfold fX1_fitsEntry
      rw [if_neg z1_, if_pos (show ii 1 = (1 : Int32) from rfl), cv_bd_eq K1, cv_gd_pos z01]
    · unfold fX6_isEntrySign
      rw [cv_gd_pos gg, cv_lt_eq, cv_lt_eq, md6 hi e0 (by omega) (by omega) (by omega), if_neg z1_, if_pos (show ii 1 = (1 : Int32) from rfl), rd_ii (gX6_page M) (k := i) (by omega) (by omega), cv_bd_eq K2, cv_gd_pos z01]
theorem en4 (h : pgR p (gX6_page M) (gX6_pageMany M) P) {i e : Int} (hi : i = 5 + 6 * e + 4) (e0 : 0 ≤ e) (i1 : i < P) : fx p M e 4 i (dgt (rd (gX6_page M) i)) := by
  have hP := h.2.2.2.1
  have q := h.2.2.2.2 i (by omega) i1
  have K1 := isDigit1 h (j := i) (by omega) i1
  have K2 := in6 (k := rd (gX6_page M) i) (lo := 48) (hi := 57) (x := 48) (y := 57) (by omega) (by omega) rfl rfl
  have gg := ii_in (k := i) (n := 54) (by omega) (by omega) (by omega)
  have n0 : ¬ ii 4 = (0 : Int32) := by decide
  have n1 : ¬ ii 4 = (1 : Int32) := by decide
  have n2 : ¬ ii 4 = (2 : Int32) := by decide
  have n3 : ¬ ii 4 = (3 : Int32) := by decide
  have n4 : ii 4 = (4 : Int32) := by decide
  by_cases z : 48 ≤ rd (gX6_page M) i ∧ rd (gX6_page M) i ≤ 57
  · rw [if_pos z] at K1 K2
    refine ⟨1, Or.inr rfl, ?_, ?_, fun t => z⟩
    · unfold fX1_fitsEntry
      rw [if_neg n0, if_neg n1, if_neg n2, if_neg n3, if_pos n4, cv_bd_eq K1, cv_gd_pos z11]
    · unfold fX6_isEntrySign
      rw [cv_gd_pos gg, cv_lt_eq, cv_lt_eq, md6 hi e0 (by omega) (by omega) (by omega), if_neg n0, if_neg n1, if_neg n2, if_neg n3, if_pos n4, rd_ii (gX6_page M) (k := i) (by omega) (by omega), cv_bd_eq K2, cv_gd_pos z11]
  · rw [if_neg z] at K1 K2
    refine ⟨0, Or.inl rfl, ?_, ?_, fun t => by omega⟩
    · unfold fX1_fitsEntry
      rw [if_neg n0, if_neg n1, if_neg n2, if_neg n3, if_pos n4, cv_bd_eq K1, cv_gd_pos z01]
    · unfold fX6_isEntrySign
      rw [cv_gd_pos gg, cv_lt_eq, cv_lt_eq, md6 hi e0 (by omega) (by omega) (by omega), if_neg n0, if_neg n1, if_neg n2, if_neg n3, if_pos n4, rd_ii (gX6_page M) (k := i) (by omega) (by omega), cv_bd_eq K2, cv_gd_pos z01]
theorem en2 (h : pgR p (gX6_page M) (gX6_pageMany M) P) {i e : Int} (hi : i = 5 + 6 * e + 2) (e0 : 0 ≤ e) (i1 : i < P) (hd : ∀ j, 0 ≤ j → j < e → dgt (rd (gX6_page M) (6 + 6 * j)) ∧ dgt (rd (gX6_page M) (7 + 6 * j))) (hd2 : dgt (rd (gX6_page M) (6 + 6 * e))) : fx p M e 2 i (dgt (rd (gX6_page M) i) ∧ ∀ j, 0 ≤ j → j < e → ¬ (rd (gX6_page M) (6 + 6 * j) = rd (gX6_page M) (6 + 6 * e) ∧ rd (gX6_page M) (7 + 6 * j) = rd (gX6_page M) (7 + 6 * e))) := by
  have hP := h.2.2.2.1
  have q := h.2.2.2.2 i (by omega) i1
  have K1 := isDigit1 h (j := i) (by omega) i1
  have K2 := in6 (k := rd (gX6_page M) i) (lo := 48) (hi := 57) (x := 48) (y := 57) (by omega) (by omega) rfl rfl
  have gg := ii_in (k := i) (n := 54) (by omega) (by omega) (by omega)
  have n0 : ¬ ii 2 = (0 : Int32) := by decide
  have n1 : ¬ ii 2 = (1 : Int32) := by decide
  have n2 : ii 2 = (2 : Int32) := by decide
  have ie : i = 7 + 6 * e := by omega
  by_cases z : 48 ≤ rd (gX6_page M) i ∧ rd (gX6_page M) i ≤ 57
  · rw [if_pos z] at K1 K2
    have hdd : ∀ j, 0 ≤ j → j ≤ e → dgt (rd (gX6_page M) (6 + 6 * j)) ∧ dgt (rd (gX6_page M) (7 + 6 * j)) := fun j a b => by
      by_cases y : j = e
      · rw [y, ← ie]; exact ⟨hd2, z⟩
      · exact hd j a (by omega)
    obtain ⟨r, r1, r2, r3, r4⟩ := newTold h (by omega) hdd e.toNat 256 256 0 (by omega) (by omega) (by omega) (by omega)
    have N1 : fX1_isNewKey p (ii e) = some (ii r) := (newKey1 e).trans r2
    have N2 : fX6_isTold M (ii i) = some (ii (1 - r)) := by
      unfold fX6_isTold
      rw [ie]
      refine (cv_bd_eq (a := ii (1 - r)) r3 _).trans ?_
      rcases r1 with rfl | rfl
      · exact cv_gd_pos z11 _
      · exact cv_gd_pos z01 _
    rcases r1 with rfl | rfl
    · refine ⟨0, Or.inl rfl, ?_, ?_, fun t => by omega⟩
      · unfold fX1_fitsEntry
        rw [if_neg n0, if_neg n1, if_pos n2, cv_bd_eq K1, if_neg z1_, cv_bd_eq N1, if_pos z0_]; rfl
      · unfold fX6_isEntrySign
        rw [cv_gd_pos gg, cv_lt_eq, cv_lt_eq, md6 hi e0 (by omega) (by omega) (by omega), if_neg n0, if_neg n1, if_pos n2, rd_ii (gX6_page M) (k := i) (by omega) (by omega), cv_bd_eq K2, if_neg z1_, cv_bd_eq N2, show (1 : Int) - 0 = 1 by omega, if_neg z1_]; rfl
    · refine ⟨1, Or.inr rfl, ?_, ?_, fun t => ⟨z, fun j a b => r4 rfl j a b⟩⟩
      · unfold fX1_fitsEntry
        rw [if_neg n0, if_neg n1, if_pos n2, cv_bd_eq K1, if_neg z1_, cv_bd_eq N1, if_neg z1_]; rfl
      · unfold fX6_isEntrySign
        rw [cv_gd_pos gg, cv_lt_eq, cv_lt_eq, md6 hi e0 (by omega) (by omega) (by omega), if_neg n0, if_neg n1, if_pos n2, rd_ii (gX6_page M) (k := i) (by omega) (by omega), cv_bd_eq K2, if_neg z1_, cv_bd_eq N2, show (1 : Int) - 1 = 0 by omega, if_pos z0_]; rfl
  · rw [if_neg z] at K1 K2
    refine ⟨0, Or.inl rfl, ?_, ?_, fun t => by omega⟩
    · unfold fX1_fitsEntry
      rw [if_neg n0, if_neg n1, if_pos n2, cv_bd_eq K1, if_pos z0_]; rfl
    · unfold fX6_isEntrySign
      rw [cv_gd_pos gg, cv_lt_eq, cv_lt_eq, md6 hi e0 (by omega) (by omega) (by omega), if_neg n0, if_neg n1, if_pos n2, rd_ii (gX6_page M) (k := i) (by omega) (by omega), cv_bd_eq K2, if_pos z0_]; rfl
theorem en3 (h : pgR p (gX6_page M) (gX6_pageMany M) P) {i e : Int} (hi : i = 5 + 6 * e + 3) (e0 : 0 ≤ e) (i1 : i < P) : fx p M e 3 i True := by
  have hP := h.2.2.2.1
  have K1 := code1 h (j := i) (by omega) i1
  have gg := ii_in (k := i) (n := 54) (by omega) (by omega) (by omega)
  have n0 : ¬ ii 3 = (0 : Int32) := by decide
  have n1 : ¬ ii 3 = (1 : Int32) := by decide
  have n2 : ¬ ii 3 = (2 : Int32) := by decide
  have n3 : ii 3 = (3 : Int32) := by decide
  by_cases z : ii (rd (gX6_page M) i) = (61 : Int32)
  · refine ⟨1, Or.inr rfl, ?_, ?_, fun t => trivial⟩
    · unfold fX1_fitsEntry
      rw [if_neg n0, if_neg n1, if_neg n2, if_pos n3, cv_bd_eq K1, if_pos z]; rfl
    · unfold fX6_isEntrySign
      rw [cv_gd_pos gg, cv_lt_eq, cv_lt_eq, md6 hi e0 (by omega) (by omega) (by omega), if_neg n0, if_neg n1, if_neg n2, if_pos n3, rd_ii (gX6_page M) (k := i) (by omega) (by omega), if_pos z]; rfl
  · refine ⟨0, Or.inl rfl, ?_, ?_, fun t => trivial⟩
    · unfold fX1_fitsEntry
      rw [if_neg n0, if_neg n1, if_neg n2, if_pos n3, cv_bd_eq K1, if_neg z]; rfl
    · unfold fX6_isEntrySign
      rw [cv_gd_pos gg, cv_lt_eq, cv_lt_eq, md6 hi e0 (by omega) (by omega) (by omega), if_neg n0, if_neg n1, if_neg n2, if_pos n3, rd_ii (gX6_page M) (k := i) (by omega) (by omega), if_neg z]; rfl
theorem en5 (h : pgR p (gX6_page M) (gX6_pageMany M) P) {i e : Int} (hi : i = 5 + 6 * e + 5) (e0 : 0 ≤ e) (i1 : i < P) : fx p M e 5 i True := by
  have hP := h.2.2.2.1
  have K1 := code1 h (j := i) (by omega) i1
  have gg := ii_in (k := i) (n := 54) (by omega) (by omega) (by omega)
  have n0 : ¬ ii 5 = (0 : Int32) := by decide
  have n1 : ¬ ii 5 = (1 : Int32) := by decide
  have n2 : ¬ ii 5 = (2 : Int32) := by decide
  have n3 : ¬ ii 5 = (3 : Int32) := by decide
  have n4 : ¬ ii 5 = (4 : Int32) := by decide
  have n5 : ii 5 = (5 : Int32) := by decide
  by_cases z : ii (rd (gX6_page M) i) = (44 : Int32)
  · by_cases y : 7 ≤ e
    · refine ⟨0, Or.inl rfl, ?_, ?_, fun t => trivial⟩
      · unfold fX1_fitsEntry
        rw [if_neg n0, if_neg n1, if_neg n2, if_neg n3, if_neg n4, if_pos n5, cv_bd_eq K1, if_pos z, if_pos (show (7 : Int32) ≤ ii e from p_le (k := 7) (by omega) (by omega) (by omega) (by omega) y)]; rfl
      · unfold fX6_isEntrySign
        rw [cv_gd_pos gg, cv_lt_eq, cv_lt_eq, md6 hi e0 (by omega) (by omega) (by omega), if_neg n0, if_neg n1, if_neg n2, if_neg n3, if_neg n4, rd_ii (gX6_page M) (k := i) (by omega) (by omega), if_pos z, if_pos (show (52 : Int32) ≤ ii i from p_le (k := 52) (by omega) (by omega) (by omega) (by omega) (by omega))]; rfl
    · refine ⟨1, Or.inr rfl, ?_, ?_, fun t => trivial⟩
      · unfold fX1_fitsEntry
        rw [if_neg n0, if_neg n1, if_neg n2, if_neg n3, if_neg n4, if_pos n5, cv_bd_eq K1, if_pos z, if_neg (show ¬ (7 : Int32) ≤ ii e from n_le (k := 7) (by omega) (by omega) (by omega) (by omega) y)]; rfl
      · unfold fX6_isEntrySign
        rw [cv_gd_pos gg, cv_lt_eq, cv_lt_eq, md6 hi e0 (by omega) (by omega) (by omega), if_neg n0, if_neg n1, if_neg n2, if_neg n3, if_neg n4, rd_ii (gX6_page M) (k := i) (by omega) (by omega), if_pos z, if_neg (show ¬ (52 : Int32) ≤ ii i from n_le (k := 52) (by omega) (by omega) (by omega) (by omega) (by omega))]; rfl
  · refine ⟨0, Or.inl rfl, ?_, ?_, fun t => trivial⟩
    · unfold fX1_fitsEntry
      rw [if_neg n0, if_neg n1, if_neg n2, if_neg n3, if_neg n4, if_pos n5, cv_bd_eq K1, if_neg z]; rfl
    · unfold fX6_isEntrySign
      rw [cv_gd_pos gg, cv_lt_eq, cv_lt_eq, md6 hi e0 (by omega) (by omega) (by omega), if_neg n0, if_neg n1, if_neg n2, if_neg n3, if_neg n4, rd_ii (gX6_page M) (k := i) (by omega) (by omega), if_neg z]; rfl
theorem fx_fit (h : pgR p (gX6_page M) (gX6_pageMany M) P) {i e q : Int} (hi : i = 5 + 6 * e + q) (e0 : 0 ≤ e) (q0 : 0 ≤ q) (q1 : q < 6) (i1 : i < P) {K : Prop} (hK : fx p M e q i K) : ∃ r : Int, (r = 0 ∨ r = 1) ∧ fX1_fits p (ii i) = some (ii r) ∧ fX6_isGood M (ii i) = some (ii r) ∧ (r = 1 → K) := by
  have hP := h.2.2.2.1
  obtain ⟨r, r1, r2, r3, r4⟩ := hK
  have gg := ii_in (k := i) (n := 54) (by omega) (by omega) (by omega)
  have n0 : ¬ ii i = (0 : Int32) := i_ne (b := 0) (by omega) (by omega) (by omega) (by omega) (by omega)
  have n1 : ¬ ii i = (1 : Int32) := i_ne (b := 1) (by omega) (by omega) (by omega) (by omega) (by omega)
  have n2 : ¬ ii i = (2 : Int32) := i_ne (b := 2) (by omega) (by omega) (by omega) (by omega) (by omega)
  have n3 : ¬ ii i = (3 : Int32) := i_ne (b := 3) (by omega) (by omega) (by omega) (by omega) (by omega)
  have n4 : ¬ ii i = (4 : Int32) := i_ne (b := 4) (by omega) (by omega) (by omega) (by omega) (by omega)
  have zz : ii r = (0 : Int32) ∨ ii r = (1 : Int32) := by
    rcases r1 with rfl | rfl
    · exact z01
    · exact z11
  refine ⟨r, r1, ?_, ?_, r4⟩
  · unfold fX1_fits
    rw [if_neg n0, if_neg n1, if_neg n2, if_neg n3, if_neg n4, md6 hi e0 (by omega) q0 q1, md5 hi e0 (by omega) q0 q1, cv_bd_eq r2, cv_gd_pos zz]
  · unfold fX6_isGood
    rw [cv_gd_pos gg, cv_lt_eq, if_neg n0, if_neg n1, if_neg n2, if_neg n3, if_neg n4, cv_bd_eq r3, cv_gd_pos zz]
theorem rd0 (f : Nat → Int32) : f ((0 : Int32)).toNatClampNeg = ii (rd f 0) := rd_ii f (k := 0) (by omega) (by omega)
theorem fit0 (h : pgR p (gX6_page M) (gX6_pageMany M) P) (i1 : 0 < P) : ∃ r : Int, (r = 0 ∨ r = 1) ∧ fX1_fits p (ii 0) = some (ii r) ∧ fX6_isGood M (ii 0) = some (ii r) ∧ (r = 1 → 50 ≤ rd (gX6_page M) 0 ∧ rd (gX6_page M) 0 ≤ 52) := by
  have q := h.2.2.2.2 0 (by omega) i1
  have D0 : fX1_digit p 0 = some (ii (rd (gX6_page M) 0 - 48)) := digit1 h (j := 0) (by omega) i1
  have K2 := in6 (k := rd (gX6_page M) 0) (lo := 50) (hi := 52) (x := 50) (y := 52) (by omega) (by omega) rfl rfl
  have gg := ii_in (k := 0) (n := 54) (by omega) (by omega) (by omega)
  by_cases z1 : rd (gX6_page M) 0 - 48 < 2
  · rw [if_neg (by omega)] at K2
    refine ⟨0, Or.inl rfl, ?_, ?_, fun t => by omega⟩
    · unfold fX1_fits
      rw [if_pos z0_, cv_bd_eq D0, if_pos (show ii (rd (gX6_page M) 0 - 48) < 2 from p_lt (c := 2) (by omega) (by omega) (by omega) (by omega) z1)]; rfl
    · unfold fX6_isGood
      rw [cv_gd_pos gg, cv_lt_eq, if_pos z0_, rd_ii (gX6_page M) (k := 0) (by omega) (by omega), cv_bd_eq K2, cv_gd_pos z01]
  · by_cases z2 : 4 < rd (gX6_page M) 0 - 48
    · rw [if_neg (by omega)] at K2
      refine ⟨0, Or.inl rfl, ?_, ?_, fun t => by omega⟩
      · unfold fX1_fits
        rw [if_pos z0_, cv_bd_eq D0, if_neg (show ¬ ii (rd (gX6_page M) 0 - 48) < 2 from n_lt (c := 2) (by omega) (by omega) (by omega) (by omega) z1), cv_bd_eq D0, if_pos (show (4 : Int32) < ii (rd (gX6_page M) 0 - 48) from p_lt (k := 4) (by omega) (by omega) (by omega) (by omega) z2)]; rfl
      · unfold fX6_isGood
        rw [cv_gd_pos gg, cv_lt_eq, if_pos z0_, rd_ii (gX6_page M) (k := 0) (by omega) (by omega), cv_bd_eq K2, cv_gd_pos z01]
    · rw [if_pos (by omega)] at K2
      refine ⟨1, Or.inr rfl, ?_, ?_, fun t => by omega⟩
      · unfold fX1_fits
        rw [if_pos z0_, cv_bd_eq D0, if_neg (show ¬ ii (rd (gX6_page M) 0 - 48) < 2 from n_lt (c := 2) (by omega) (by omega) (by omega) (by omega) z1), cv_bd_eq D0, if_neg (show ¬ (4 : Int32) < ii (rd (gX6_page M) 0 - 48) from n_lt (k := 4) (by omega) (by omega) (by omega) (by omega) z2)]; rfl
      · unfold fX6_isGood
        rw [cv_gd_pos gg, cv_lt_eq, if_pos z0_, rd_ii (gX6_page M) (k := 0) (by omega) (by omega), cv_bd_eq K2, cv_gd_pos z11]
theorem fit1 (h : pgR p (gX6_page M) (gX6_pageMany M) P) (i1 : 1 < P) : ∃ r : Int, (r = 0 ∨ r = 1) ∧ fX1_fits p (ii 1) = some (ii r) ∧ fX6_isGood M (ii 1) = some (ii r) ∧ (r = 1 → rat (rd (gX6_page M) 0 - 48) (rd (gX6_page M) 1 - 48)) := by
  have q := h.2.2.2.2 0 (by omega) (by omega)
  have q1 := h.2.2.2.2 1 (by omega) i1
  have D0 : fX1_digit p 0 = some (ii (rd (gX6_page M) 0 - 48)) := digit1 h (j := 0) (by omega) (by omega)
  have D1 : fX1_digit p 1 = some (ii (rd (gX6_page M) 1 - 48)) := digit1 h (j := 1) (by omega) i1
  have gg := ii_in (k := 1) (n := 54) (by omega) (by omega) (by omega)
  have g0 : 0 ≤ ((0 : Int32)).toInt ∧ ((0 : Int32)).toInt < 54 := by decide
  have e1 : ii 1 = (1 : Int32) := rfl
  obtain ⟨r, r1, r2, r3, r4⟩ : ∃ r : Int, (r = 0 ∨ r = 1) ∧ fX5_isRatio (ii (rd (gX6_page M) 0 - 48)) (ii (rd (gX6_page M) 1 - 48)) = some (ii r) ∧ fX6_isRatio (ii (rd (gX6_page M) 0 - 48)) (ii (rd (gX6_page M) 1 - 48)) = some (ii r) ∧ (r = 1 → rat (rd (gX6_page M) 0 - 48) (rd (gX6_page M) 1 - 48)) := by
    by_cases z : rat (rd (gX6_page M) 0 - 48) (rd (gX6_page M) 1 - 48)
    · exact ⟨1, Or.inr rfl, (rat_yes z).1, (rat_yes z).2, fun _ => z⟩
    · exact ⟨0, Or.inl rfl, rat_no5 (by omega) (by omega) (by omega) (by omega) z, rat_no6 (by omega) (by omega) (by omega) (by omega) z, fun t => by omega⟩
  have zz : ii r = (0 : Int32) ∨ ii r = (1 : Int32) := by
    rcases r1 with rfl | rfl
    · exact z01
    · exact z11
  refine ⟨r, r1, ?_, ?_, r4⟩
  · unfold fX1_fits
    rw [if_neg z1_, if_pos e1, cv_bd_eq D0, cv_bd_eq D1, cv_bd_eq r2, cv_gd_pos zz]
  · unfold fX6_isGood
    rw [cv_gd_pos gg, cv_lt_eq, if_neg z1_, if_pos e1, cv_gd_pos g0, rd0 (gX6_page M), rd_ii (gX6_page M) (k := 1) (by omega) (by omega), ii_l48, ii_sub, ii_sub, cv_bd_eq r3, cv_gd_pos zz]
theorem fit2 (h : pgR p (gX6_page M) (gX6_pageMany M) P) (i1 : 2 < P) : ∃ r : Int, (r = 0 ∨ r = 1) ∧ fX1_fits p (ii 2) = some (ii r) ∧ fX6_isGood M (ii 2) = some (ii r) := by
  have D0 : fX1_code p 2 = some (ii (rd (gX6_page M) 2)) := code1 h (j := 2) (by omega) i1
  have gg := ii_in (k := 2) (n := 54) (by omega) (by omega) (by omega)
  have n0 : ¬ ii 2 = (0 : Int32) := by decide
  have n1 : ¬ ii 2 = (1 : Int32) := by decide
  have n2 : ii 2 = (2 : Int32) := by decide
  by_cases z : ii (rd (gX6_page M) 2) = (59 : Int32)
  · refine ⟨1, Or.inr rfl, ?_, ?_⟩
    · unfold fX1_fits
      rw [if_neg n0, if_neg n1, if_pos n2, cv_bd_eq D0, if_pos z]; rfl
    · unfold fX6_isGood
      rw [cv_gd_pos gg, cv_lt_eq, if_neg n0, if_neg n1, if_pos n2, rd_ii (gX6_page M) (k := 2) (by omega) (by omega), if_pos z]; rfl
  · refine ⟨0, Or.inl rfl, ?_, ?_⟩
    · unfold fX1_fits
      rw [if_neg n0, if_neg n1, if_pos n2, cv_bd_eq D0, if_neg z]; rfl
    · unfold fX6_isGood
      rw [cv_gd_pos gg, cv_lt_eq, if_neg n0, if_neg n1, if_pos n2, rd_ii (gX6_page M) (k := 2) (by omega) (by omega), if_neg z]; rfl
theorem fit4 (h : pgR p (gX6_page M) (gX6_pageMany M) P) (i1 : 4 < P) : ∃ r : Int, (r = 0 ∨ r = 1) ∧ fX1_fits p (ii 4) = some (ii r) ∧ fX6_isGood M (ii 4) = some (ii r) := by
  have D0 : fX1_code p 4 = some (ii (rd (gX6_page M) 4)) := code1 h (j := 4) (by omega) i1
  have gg := ii_in (k := 4) (n := 54) (by omega) (by omega) (by omega)
  have n0 : ¬ ii 4 = (0 : Int32) := by decide
  have n1 : ¬ ii 4 = (1 : Int32) := by decide
  have n2 : ¬ ii 4 = (2 : Int32) := by decide
  have n3 : ¬ ii 4 = (3 : Int32) := by decide
  have n4 : ii 4 = (4 : Int32) := by decide
  by_cases z : ii (rd (gX6_page M) 4) = (59 : Int32)
  · refine ⟨1, Or.inr rfl, ?_, ?_⟩
    · unfold fX1_fits
      rw [if_neg n0, if_neg n1, if_neg n2, if_neg n3, if_pos n4, cv_bd_eq D0, if_pos z]; rfl
    · unfold fX6_isGood
      rw [cv_gd_pos gg, cv_lt_eq, if_neg n0, if_neg n1, if_neg n2, if_neg n3, if_pos n4, rd_ii (gX6_page M) (k := 4) (by omega) (by omega), if_pos z]; rfl
  · refine ⟨0, Or.inl rfl, ?_, ?_⟩
    · unfold fX1_fits
      rw [if_neg n0, if_neg n1, if_neg n2, if_neg n3, if_pos n4, cv_bd_eq D0, if_neg z]; rfl
    · unfold fX6_isGood
      rw [cv_gd_pos gg, cv_lt_eq, if_neg n0, if_neg n1, if_neg n2, if_neg n3, if_pos n4, rd_ii (gX6_page M) (k := 4) (by omega) (by omega), if_neg z]; rfl
theorem fit3 (h : pgR p (gX6_page M) (gX6_pageMany M) P) (i1 : 3 < P) : ∃ r : Int, (r = 0 ∨ r = 1) ∧ fX1_fits p (ii 3) = some (ii r) ∧ fX6_isGood M (ii 3) = some (ii r) ∧ (r = 1 → 49 ≤ rd (gX6_page M) 3 ∧ rd (gX6_page M) 3 ≤ 57) := by
  have q := h.2.2.2.2 3 (by omega) i1
  have D0 : fX1_digit p 3 = some (ii (rd (gX6_page M) 3 - 48)) := digit1 h (j := 3) (by omega) i1
  have D1 : fX1_isDigit p 3 = some (if 48 ≤ rd (gX6_page M) 3 ∧ rd (gX6_page M) 3 ≤ 57 then ii 1 else ii 0) := isDigit1 h (j := 3) (by omega) i1
  have K2 := in6 (k := rd (gX6_page M) 3) (lo := 49) (hi := 57) (x := 49) (y := 57) (by omega) (by omega) rfl rfl
  have gg := ii_in (k := 3) (n := 54) (by omega) (by omega) (by omega)
  have n0 : ¬ ii 3 = (0 : Int32) := by decide
  have n1 : ¬ ii 3 = (1 : Int32) := by decide
  have n2 : ¬ ii 3 = (2 : Int32) := by decide
  have n3 : ii 3 = (3 : Int32) := by decide
  by_cases z1 : 48 ≤ rd (gX6_page M) 3 ∧ rd (gX6_page M) 3 ≤ 57
  · rw [if_pos z1] at D1
    by_cases z2 : rd (gX6_page M) 3 - 48 ≤ 0
    · rw [if_neg (by omega)] at K2
      refine ⟨0, Or.inl rfl, ?_, ?_, fun t => by omega⟩
      · unfold fX1_fits
        rw [if_neg n0, if_neg n1, if_neg n2, if_pos n3, cv_bd_eq D1, if_neg z1_, cv_bd_eq D0, if_pos (show ii (rd (gX6_page M) 3 - 48) ≤ 0 from p_le (c := 0) (by omega) (by omega) (by omega) (by omega) z2)]; rfl
      · unfold fX6_isGood
        rw [cv_gd_pos gg, cv_lt_eq, if_neg n0, if_neg n1, if_neg n2, if_pos n3, rd_ii (gX6_page M) (k := 3) (by omega) (by omega), cv_bd_eq K2, cv_gd_pos z01]
    · rw [if_pos (by omega)] at K2
      refine ⟨1, Or.inr rfl, ?_, ?_, fun t => by omega⟩
      · unfold fX1_fits
        rw [if_neg n0, if_neg n1, if_neg n2, if_pos n3, cv_bd_eq D1, if_neg z1_, cv_bd_eq D0, if_neg (show ¬ ii (rd (gX6_page M) 3 - 48) ≤ 0 from n_le (c := 0) (by omega) (by omega) (by omega) (by omega) z2)]; rfl
      · unfold fX6_isGood
        rw [cv_gd_pos gg, cv_lt_eq, if_neg n0, if_neg n1, if_neg n2, if_pos n3, rd_ii (gX6_page M) (k := 3) (by omega) (by omega), cv_bd_eq K2, cv_gd_pos z11]
  · rw [if_neg z1] at D1
    rw [if_neg (by omega)] at K2
    refine ⟨0, Or.inl rfl, ?_, ?_, fun t => by omega⟩
    · unfold fX1_fits
      rw [if_neg n0, if_neg n1, if_neg n2, if_pos n3, cv_bd_eq D1, if_pos z0_]; rfl
    · unfold fX6_isGood
      rw [cv_gd_pos gg, cv_lt_eq, if_neg n0, if_neg n1, if_neg n2, if_pos n3, rd_ii (gX6_page M) (k := 3) (by omega) (by omega), cv_bd_eq K2, cv_gd_pos z01]
theorem fit_eq (h : pgR p (gX6_page M) (gX6_pageMany M) P) {i : Int} (i0 : 0 ≤ i) (i1 : i < P) (hg : ∀ j, 0 ≤ j → j < i → pgd (rd (gX6_page M)) j) : ∃ r : Int, (r = 0 ∨ r = 1) ∧ fX1_fits p (ii i) = some (ii r) ∧ fX6_isGood M (ii i) = some (ii r) ∧ (r = 1 → pgd (rd (gX6_page M)) i) := by
  by_cases c0 : i = 0
  · subst c0
    obtain ⟨r, r1, r2, r3, r4⟩ := fit0 h i1
    exact ⟨r, r1, r2, r3, fun t => ⟨fun _ => r4 t, fun z => absurd z (by omega), fun z => absurd z (by omega), fun e _ z => absurd z (by omega), fun e _ z => absurd z (by omega), fun e _ z => absurd z (by omega), fun e _ z => absurd z (by omega)⟩⟩
  by_cases c1 : i = 1
  · subst c1
    obtain ⟨r, r1, r2, r3, r4⟩ := fit1 h i1
    exact ⟨r, r1, r2, r3, fun t => ⟨fun z => absurd z (by omega), fun _ => r4 t, fun z => absurd z (by omega), fun e _ z => absurd z (by omega), fun e _ z => absurd z (by omega), fun e _ z => absurd z (by omega), fun e _ z => absurd z (by omega)⟩⟩
  by_cases c2 : i = 2
  · subst c2
    obtain ⟨r, r1, r2, r3⟩ := fit2 h i1
    exact ⟨r, r1, r2, r3, fun t => ⟨fun z => absurd z (by omega), fun z => absurd z (by omega), fun z => absurd z (by omega), fun e _ z => absurd z (by omega), fun e _ z => absurd z (by omega), fun e _ z => absurd z (by omega), fun e _ z => absurd z (by omega)⟩⟩
  by_cases c3 : i = 3
  · subst c3
    obtain ⟨r, r1, r2, r3, r4⟩ := fit3 h i1
    exact ⟨r, r1, r2, r3, fun t => ⟨fun z => absurd z (by omega), fun z => absurd z (by omega), fun _ => r4 t, fun e _ z => absurd z (by omega), fun e _ z => absurd z (by omega), fun e _ z => absurd z (by omega), fun e _ z => absurd z (by omega)⟩⟩
  by_cases c4 : i = 4
  · subst c4
    obtain ⟨r, r1, r2, r3⟩ := fit4 h i1
    exact ⟨r, r1, r2, r3, fun t => ⟨fun z => absurd z (by omega), fun z => absurd z (by omega), fun z => absurd z (by omega), fun e _ z => absurd z (by omega), fun e _ z => absurd z (by omega), fun e _ z => absurd z (by omega), fun e _ z => absurd z (by omega)⟩⟩
  obtain ⟨e, q, hi, e0, q0, q1⟩ : ∃ e q : Int, i = 5 + 6 * e + q ∧ 0 ≤ e ∧ 0 ≤ q ∧ q < 6 := ⟨(i - 5) / 6, (i - 5) % 6, by omega, by omega, by omega, by omega⟩
  rcases (show q = 0 ∨ q = 1 ∨ q = 2 ∨ q = 3 ∨ q = 4 ∨ q = 5 by omega) with rfl | rfl | rfl | rfl | rfl | rfl
  · obtain ⟨r, r1, r2, r3, r4⟩ := fx_fit h hi e0 q0 q1 i1 (en0 h hi e0 i1)
    exact ⟨r, r1, r2, r3, fun t => ⟨fun z => absurd z (by omega), fun z => absurd z (by omega), fun z => absurd z (by omega), fun _ _ _ => r4 t, fun e' _ z => absurd z (by omega), fun e' _ z => absurd z (by omega), fun e' _ z => absurd z (by omega)⟩⟩
  · obtain ⟨r, r1, r2, r3, r4⟩ := fx_fit h hi e0 q0 q1 i1 (en1 h hi e0 i1)
    exact ⟨r, r1, r2, r3, fun t => ⟨fun z => absurd z (by omega), fun z => absurd z (by omega), fun z => absurd z (by omega), fun e' _ z => absurd z (by omega), fun _ _ _ => r4 t, fun e' _ z => absurd z (by omega), fun e' _ z => absurd z (by omega)⟩⟩
  · obtain ⟨r, r1, r2, r3, r4⟩ := fx_fit h hi e0 q0 q1 i1 (en2 h hi e0 i1 (fun j a b => ⟨(hg (6 + 6 * j) (by omega) (by omega)).2.2.2.2.1 j a rfl, ((hg (7 + 6 * j) (by omega) (by omega)).2.2.2.2.2.1 j a rfl).1⟩) ((hg (6 + 6 * e) (by omega) (by omega)).2.2.2.2.1 e e0 rfl))
    refine ⟨r, r1, r2, r3, fun t => ⟨fun z => absurd z (by omega), fun z => absurd z (by omega), fun z => absurd z (by omega), fun e' _ z => absurd z (by omega), fun e' _ z => absurd z (by omega), fun e' _ z => ?_, fun e' _ z => absurd z (by omega)⟩⟩
    obtain rfl : e' = e := by omega
    exact r4 t
  · obtain ⟨r, r1, r2, r3, r4⟩ := fx_fit h hi e0 q0 q1 i1 (en3 h hi e0 i1)
    exact ⟨r, r1, r2, r3, fun t => ⟨fun z => absurd z (by omega), fun z => absurd z (by omega), fun z => absurd z (by omega), fun e' _ z => absurd z (by omega), fun e' _ z => absurd z (by omega), fun e' _ z => absurd z (by omega), fun e' _ z => absurd z (by omega)⟩⟩
  · obtain ⟨r, r1, r2, r3, r4⟩ := fx_fit h hi e0 q0 q1 i1 (en4 h hi e0 i1)
    exact ⟨r, r1, r2, r3, fun t => ⟨fun z => absurd z (by omega), fun z => absurd z (by omega), fun z => absurd z (by omega), fun e' _ z => absurd z (by omega), fun e' _ z => absurd z (by omega), fun e' _ z => absurd z (by omega), fun _ _ _ => r4 t⟩⟩
  · obtain ⟨r, r1, r2, r3, r4⟩ := fx_fit h hi e0 q0 q1 i1 (en5 h hi e0 i1)
    exact ⟨r, r1, r2, r3, fun t => ⟨fun z => absurd z (by omega), fun z => absurd z (by omega), fun z => absurd z (by omega), fun e' _ z => absurd z (by omega), fun e' _ z => absurd z (by omega), fun e' _ z => absurd z (by omega), fun e' _ z => absurd z (by omega)⟩⟩
theorem fault_L (h : pgR p (gX6_page M) (gX6_pageMany M) P) : ∀ (m n1 n2 : Nat) (i : Int), 0 ≤ i → i + m = P → (∀ j, 0 ≤ j → j < i → pgd (rd (gX6_page M)) j) → m < n1 → m < n2 → ∃ r : Int, fX1_firstWrong_L2 p n1 (ii i) = some (ii r) ∧ fX6_faultOf_L2 M n2 (ii i) = some (ii r) ∧ 0 ≤ r ∧ r ≤ P ∧ (r = P → ∀ j, 0 ≤ j → j < P → pgd (rd (gX6_page M)) j)
  | 0, n1, n2, i, i0, im, hg, h1, h2 => by
    obtain ⟨n1, rfl⟩ : ∃ m, n1 = m + 1 := ⟨n1 - 1, by omega⟩
    obtain ⟨n2, rfl⟩ : ∃ m, n2 = m + 1 := ⟨n2 - 1, by omega⟩
    obtain ⟨p1, p2, p3, p4, p5⟩ := h
    obtain rfl : i = P := by omega
    refine ⟨i, ?_, ?_, p3, by omega, fun _ => hg⟩
    · unfold fX1_firstWrong_L2
      rw [p1, if_pos (p_le (by omega) (by omega) (by omega) (by omega) (by omega))]
    · unfold fX6_faultOf_L2
      rw [p2, if_pos (p_le (by omega) (by omega) (by omega) (by omega) (by omega))]
  | m + 1, n1, n2, i, i0, im, hg, h1, h2 => by
    obtain ⟨n1, rfl⟩ : ∃ m, n1 = m + 1 := ⟨n1 - 1, by omega⟩
    obtain ⟨n2, rfl⟩ : ∃ m, n2 = m + 1 := ⟨n2 - 1, by omega⟩
    obtain ⟨r, r1, r2, r3, r4⟩ := fit_eq h i0 (by omega) hg
    obtain ⟨p1, p2, p3, p4, p5⟩ := id h
    unfold fX1_firstWrong_L2 fX6_faultOf_L2
    rw [p1, p2, if_neg (n_le (by omega) (by omega) (by omega) (by omega) (by omega)), if_neg (n_le (by omega) (by omega) (by omega) (by omega) (by omega)), cv_bd_eq r2, cv_bd_eq r3]
    rcases r1 with rfl | rfl
    · rw [if_pos z0_, if_pos z0_]
      exact ⟨i, rfl, rfl, i0, by omega, fun t => by omega⟩
    · rw [if_neg z1_, if_neg z1_, cv_lt_eq, cv_lt_eq, ii_l1, ii_add]
      exact fault_L h m n1 n2 (i + 1) (by omega) (by omega) (fun j a b => by
        by_cases y : j = i
        · rw [y]; exact r4 rfl
        · exact hg j a (by omega)) (by omega) (by omega)
theorem fault6 (h : pgR p (gX6_page M) (gX6_pageMany M) P) : ∃ r : Int, fX1_firstWrong p = some (ii r) ∧ fX6_faultOf M = some (ii r) ∧ 0 ≤ r ∧ r ≤ P ∧ (r = P → ∀ j, 0 ≤ j → j < P → pgd (rd (gX6_page M)) j) := by
  have q1 := h.2.2.1
  have q2 := h.2.2.2.1
  obtain ⟨r, r1, r2, r3⟩ := fault_L h P.toNat 256 256 0 (by omega) (by omega) (fun j a b => by omega) (by omega) (by omega)
  exact ⟨r, r1, cv_bd_eq r2 _, r3⟩
end
theorem B_fault {n : Int} {C : SX5} {M : SX6} (h : Inv n C M) : ∃ r, fX5_fault C = some r ∧ fX6_fault M = some r := by
  obtain ⟨o, g_, P, r, q', h1, h2, h3, h4, h5⟩ := h
  obtain ⟨r, r1, r2, -⟩ := fault6 h2
  exact ⟨_, cv_bd_eq r1 _, cv_bd_eq r2 _⟩
