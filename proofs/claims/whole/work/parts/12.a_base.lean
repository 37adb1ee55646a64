/-! numbers: an Int32 by the whole number that it is -/
abbrev ii (k : Int) : Int32 := Int32.ofInt k
theorem ii_toInt {a : Int} (h1 : -2147483648 ≤ a) (h2 : a < 2147483648) : (ii a).toInt = a := Int32.toInt_ofInt_of_le (by omega) (by omega)
theorem ii_of (x : Int32) : ii x.toInt = x := Int32.ofInt_toInt x
theorem ii_lo (x : Int32) : -2147483648 ≤ x.toInt := by have := Int32.le_toInt x; omega
theorem ii_hi (x : Int32) : x.toInt < 2147483648 := by have := Int32.toInt_lt x; omega
theorem ii_add (a b : Int) : ii a + ii b = ii (a + b) := (Int32.ofInt_add a b).symm
theorem ii_sub (a b : Int) : ii a - ii b = ii (a - b) := (Int32.ofInt_sub a b).symm
theorem ii_mul (a b : Int) : ii a * ii b = ii (a * b) := (Int32.ofInt_mul a b).symm
theorem ii_neg (a : Int) : -ii a = ii (-a) := (Int32.ofInt_neg a).symm
theorem ii_lt {a b : Int} (h1 : -2147483648 ≤ a) (h2 : a < 2147483648) (h3 : -2147483648 ≤ b) (h4 : b < 2147483648) : (ii a < ii b) ↔ a < b := by
  rw [Int32.lt_iff_toInt_lt, ii_toInt h1 h2, ii_toInt h3 h4]
theorem ii_le {a b : Int} (h1 : -2147483648 ≤ a) (h2 : a < 2147483648) (h3 : -2147483648 ≤ b) (h4 : b < 2147483648) : (ii a ≤ ii b) ↔ a ≤ b := by
  rw [Int32.le_iff_toInt_le, ii_toInt h1 h2, ii_toInt h3 h4]
theorem ii_eq {a b : Int} (h1 : -2147483648 ≤ a) (h2 : a < 2147483648) (h3 : -2147483648 ≤ b) (h4 : b < 2147483648) : (ii a = ii b) ↔ a = b := by
  rw [← Int32.toInt_inj, ii_toInt h1 h2, ii_toInt h3 h4]
theorem ii_cl {a : Int} (h1 : 0 ≤ a) (h2 : a < 2147483648) : (ii a).toNatClampNeg = a.toNat := Int32.toNatClampNeg_ofInt_of_le (by omega) (by omega)
theorem ii_div {a b : Int} (h1 : 0 ≤ a) (h2 : a < 2147483648) (h3 : 0 < b) (h4 : b < 2147483648) : ii a / ii b = ii (a / b) := by
  rw [← Int32.toInt_inj, Int32.toInt_div_of_ne_right _ _ (by
    intro h
    have := congrArg Int32.toInt h
    rw [ii_toInt (by omega) h4] at this
    have h5 : (-1 : Int32).toInt = -1 := by decide
    omega), ii_toInt (by omega) h2, ii_toInt (by omega) h4, Int.tdiv_eq_ediv_of_nonneg h1]
  have h6 : a / b ≤ a := Int.ediv_le_self b h1
  have h7 : 0 ≤ a / b := Int.ediv_nonneg h1 (by omega)
  rw [ii_toInt (by omega) (by omega)]
/-- a row of ints, read and written by whole numbers -/
def rd (f : Nat → Int32) (k : Int) : Int := (f k.toNat).toInt
theorem rd_ii (f : Nat → Int32) {k : Int} (h1 : 0 ≤ k) (h2 : k < 2147483648) : f (ii k).toNatClampNeg = ii (rd f k) := by
  rw [ii_cl h1 h2, rd, ii_of]
theorem rd_lo (f : Nat → Int32) (k : Int) : -2147483648 ≤ rd f k := ii_lo _
theorem rd_hi (f : Nat → Int32) (k : Int) : rd f k < 2147483648 := ii_hi _
theorem rd_upd (f : Nat → Int32) {k v j : Int} (h1 : 0 ≤ k) (h2 : k < 2147483648) (h3 : -2147483648 ≤ v) (h4 : v < 2147483648) (h5 : 0 ≤ j) : rd (upd f (ii k).toNatClampNeg (ii v)) j = if j = k then v else rd f j := by
  rw [ii_cl h1 h2]
  unfold rd upd
  by_cases h : j = k
  · rw [if_pos h, if_pos (by rw [h]), ii_toInt h3 h4]
  · rw [if_neg h, if_neg (by omega)]
theorem rd_up1 (f : Nat → Int32) {k v : Int} (h1 : 0 ≤ k) (h2 : k < 2147483648) (h3 : -2147483648 ≤ v) (h4 : v < 2147483648) : rd (upd f (ii k).toNatClampNeg (ii v)) k = v := by
  rw [rd_upd f h1 h2 h3 h4 h1, if_pos rfl]
theorem rd_up0 (f : Nat → Int32) {k v j : Int} (h1 : 0 ≤ k) (h2 : k < 2147483648) (h3 : -2147483648 ≤ v) (h4 : v < 2147483648) (h5 : 0 ≤ j) (h : j ≠ k) : rd (upd f (ii k).toNatClampNeg (ii v)) j = rd f j := by
  rw [rd_upd f h1 h2 h3 h4 h5, if_neg h]
/-- the functions of the walk -/
theorem cv_bd_some {α β : Type} (a : α) (k : α → Option β) : cv_bd (some a) k = k a := rfl
theorem cv_lt_eq {α β : Type} (a : α) (k : α → Option β) : cv_lt a k = k a := rfl
theorem cv_gd_pos {β : Type} {c : Prop} [Decidable c] (h : c) (k : Option β) : cv_gd c k = k := if_pos h
theorem cv_bd_eq {α β : Type} {x : Option α} {a : α} (h : x = some a) (k : α → Option β) : cv_bd x k = k a := by rw [h]; rfl
theorem ii_l0 : (0 : Int32) = ii 0 := rfl
theorem ii_l1 : (1 : Int32) = ii 1 := rfl
theorem ii_lm : (-1 : Int32) = ii (-1) := rfl
theorem ii_l2 : (2 : Int32) = ii 2 := rfl
theorem ii_l40 : (40 : Int32) = ii 40 := rfl
theorem ii_l100 : (100 : Int32) = ii 100 := rfl
/-- an index in its row -/
theorem ii_in {k : Int} {n : Int} (h1 : 0 ≤ k) (h2 : k < n) (h3 : n ≤ 2147483648) : 0 ≤ (ii k).toInt ∧ (ii k).toInt < n := by
  rw [ii_toInt (by omega) (by omega)]
  exact ⟨h1, h2⟩
