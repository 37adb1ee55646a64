/-! the class's tree: LIMIT, the heavy place, sizes on the way, a link -/
def rat (a b : Int) : Prop := (a = 2 ∧ b = 3) ∨ (a = 3 ∧ b = 4) ∨ (a = 3 ∧ b = 5) ∨ (a = 4 ∧ b = 5)
def limL (a b : Int32) : Nat → Int32 → Int64 → Int64 → Option Int32
  | 0, _, _, _ => none
  | n + 1, y2, y3, y5 => if (20 : Int32) ≤ y2 then some y2 else if 0 < lg_cmp y3 y5 then some y2 else limL a b n (y2 + (1 : Int32)) (y3 * b.toInt64) (y5 * a.toInt64)
theorem limL_eq (S : SX4) : ∀ (n : Nat) (y2 : Int32) (y3 y5 : Int64), fX4_limit_L18 S n y2 y3 y5 = limL (gX4_a S) (gX4_b S) n y2 y3 y5 := by
  intro n
  induction n with
  | zero => intro y2 y3 y5; rfl
  | succ n ih =>
    intro y2 y3 y5
    unfold fX4_limit_L18 limL
    simp only [cv_lt_eq, ih]
def lim (a b n : Int) : Int := ((limL (ii a) (ii b) 256 (0 : Int32) (ii b).toInt64 ((ii n).toInt64 * (ii a).toInt64)).getD 0).toInt
theorem lim_23 : ∀ m : Nat, m < 42 → limL (ii 2) (ii 3) 256 (0 : Int32) (ii 3).toInt64 ((ii (m : Int)).toInt64 * (ii 2).toInt64) = some (ii (lim 2 3 m)) ∧ 0 ≤ lim 2 3 m ∧ lim 2 3 m ≤ 20 := by decide +kernel
theorem lim_34 : ∀ m : Nat, m < 42 → limL (ii 3) (ii 4) 256 (0 : Int32) (ii 4).toInt64 ((ii (m : Int)).toInt64 * (ii 3).toInt64) = some (ii (lim 3 4 m)) ∧ 0 ≤ lim 3 4 m ∧ lim 3 4 m ≤ 20 := by decide +kernel
theorem lim_35 : ∀ m : Nat, m < 42 → limL (ii 3) (ii 5) 256 (0 : Int32) (ii 5).toInt64 ((ii (m : Int)).toInt64 * (ii 3).toInt64) = some (ii (lim 3 5 m)) ∧ 0 ≤ lim 3 5 m ∧ lim 3 5 m ≤ 20 := by decide +kernel
theorem lim_45 : ∀ m : Nat, m < 42 → limL (ii 4) (ii 5) 256 (0 : Int32) (ii 5).toInt64 ((ii (m : Int)).toInt64 * (ii 4).toInt64) = some (ii (lim 4 5 m)) ∧ 0 ≤ lim 4 5 m ∧ lim 4 5 m ≤ 20 := by decide +kernel
theorem lim_ok {a b n : Int} (hr : rat a b) (h1 : 0 ≤ n) (h2 : n ≤ 41) : limL (ii a) (ii b) 256 (0 : Int32) (ii b).toInt64 ((ii n).toInt64 * (ii a).toInt64) = some (ii (lim a b n)) ∧ 0 ≤ lim a b n ∧ lim a b n ≤ 20 := by
  obtain ⟨m, rfl⟩ : ∃ m : Nat, n = m := ⟨n.toNat, by omega⟩
  rcases hr with ⟨rfl, rfl⟩ | ⟨rfl, rfl⟩ | ⟨rfl, rfl⟩ | ⟨rfl, rfl⟩
  · exact lim_23 m (by omega)
  · exact lim_34 m (by omega)
  · exact lim_35 m (by omega)
  · exact lim_45 m (by omega)
theorem fX4_limit_eq (T : SX4) {a b n : Int} (ha : gX4_a T = ii a) (hb : gX4_b T = ii b) (hr : rat a b) (h1 : 0 ≤ n) (h2 : n ≤ 41) : fX4_limit T (ii n) = some (ii (lim a b n)) := by
  unfold fX4_limit
  rw [cv_lt_eq, cv_lt_eq, limL_eq, ha, hb, (lim_ok hr h1 h2).1, cv_bd_some]
theorem cv_max_ii {u v : Int} (h1 : -2147483648 ≤ u) (h2 : u < 2147483648) (h3 : -2147483648 ≤ v) (h4 : v < 2147483648) : cv_max (ii u) (ii v) = ii (max u v) := by
  unfold cv_max
  rw [show (if ii u < ii v then ii v else ii u) = if u < v then ii v else ii u from by simp only [ii_lt h1 h2 h3 h4]]
  by_cases h : u < v
  · rw [if_pos h]; congr 1; omega
  · rw [if_neg h]; congr 1; omega
theorem cv_min_ii {u v : Int} (h1 : -2147483648 ≤ u) (h2 : u < 2147483648) (h3 : -2147483648 ≤ v) (h4 : v < 2147483648) : cv_min (ii u) (ii v) = ii (min u v) := by
  unfold cv_min
  rw [show (if ii v < ii u then ii v else ii u) = if v < u then ii v else ii u from by simp only [ii_lt h3 h4 h1 h2]]
  by_cases h : v < u
  · rw [if_pos h]; congr 1; omega
  · rw [if_neg h]; congr 1; omega
/-- the greatest place below p that is so, -1: none -/
def tp (c : Nat → Bool) : Nat → Int
  | 0 => -1
  | p + 1 => if c p = true then p else tp c p
theorem tp_s (c : Nat → Bool) (p : Nat) : tp c (p + 1) = if c p = true then (p : Int) else tp c p := rfl
theorem tp_in (c : Nat → Bool) : ∀ p : Nat, tp c p = -1 ∨ (0 ≤ tp c p ∧ tp c p < p)
  | 0 => Or.inl rfl
  | p + 1 => by
    rw [tp_s]
    by_cases h : c p = true
    · rw [if_pos h]; exact Or.inr ⟨by omega, by omega⟩
    · rw [if_neg h]
      rcases tp_in c p with g | g
      · exact Or.inl g
      · exact Or.inr ⟨by omega, by omega⟩
theorem tp_ext {c d : Nat → Bool} : ∀ p : Nat, (∀ i, i < p → c i = d i) → tp c p = tp d p
  | 0, _ => rfl
  | p + 1, h => by rw [tp_s, tp_s, h p (by omega), tp_ext p (fun i hi => h i (by omega))]
/-- how great the parts on a way are with one more below (1: the new one itself) -/
def sl (t : Tr) (xs : List Int) (j : Nat) : Int := if j < xs.length then sz (at_ (xs.getD j 0) t) + 1 else 1
/-- too much on one side -/
def hc (a b : Int) (t : Tr) (xs : List Int) (j : Nat) : Bool := decide (a * sl t xs j < b * max (sl t xs (j + 1)) (sl t xs j - 1 - sl t xs (j + 1)))
theorem sl_in {t : Tr} (w : tr_wf t) (xs : List Int) (j : Nat) : 1 ≤ sl t xs j ∧ sl t xs j ≤ sz t + 1 := by
  unfold sl
  have h0 := sz_nonneg t w
  by_cases h : j < xs.length
  · rw [if_pos h]
    have := at_le (xs.getD j 0) t w
    have := sz_nonneg _ (at_wf (xs.getD j 0) t w)
    omega
  · rw [if_neg h]; omega
theorem heavy_L {a b : Int} (hr : rat a b) {t : Tr} (w : tr_wf t) (hz : sz t ≤ 40) {xs : List Int} (hl : xs.length ≤ 40) (hx : ∀ x ∈ xs, 0 ≤ x ∧ x < 100) {T : SX4} (ha : gX4_a T = ii a) (hb : gX4_b T = ii b) (hw : ∀ j : Nat, j < xs.length → rd (gX4_way T) j = xs.getD j 0) (hs : ∀ k : Int, 0 ≤ k → k < 100 → rd (gX4_sizes T) k = sz (at_ k t)) :
    ∀ (p n : Nat), p ≤ xs.length → p < n → fX4_heavyPlace_L30 T n (ii (sl t xs p)) (ii ((p : Int) - 1)) = some (ii (tp (hc a b t xs) p))
  | 0, n, _, hn => by
    obtain ⟨n, rfl⟩ : ∃ m, n = m + 1 := ⟨n - 1, by omega⟩
    unfold fX4_heavyPlace_L30
    simp (disch := omega) only [ii_l0, ii_l1, ii_l2, ii_l40, ii_l100, ii_neg, ii_lt]
    rw [if_pos (by omega)]
    rfl
  | p + 1, n, hp, hn => by
    obtain ⟨n, rfl⟩ : ∃ m, n = m + 1 := ⟨n - 1, by omega⟩
    have hr' : 2 ≤ a ∧ a ≤ 4 ∧ 3 ≤ b ∧ b ≤ 5 := by unfold rat at hr; omega
    have s0 := sl_in w xs p
    have s1 := sl_in w xs (p + 1)
    have hm : xs.getD p 0 ∈ xs := by
      rw [List.getD_eq_getElem?_getD, List.getElem?_eq_getElem (by omega)]
      exact List.getElem_mem _
    have hxp := hx _ hm
    have e0 : rd (gX4_way T) ((p + 1 : Nat) - 1 : Int) = xs.getD p 0 := by rw [← hw p (by omega)]; congr 1; omega
    have e1 : sl t xs p = sz (at_ (xs.getD p 0) t) + 1 := by unfold sl; rw [if_pos (by omega)]
    unfold fX4_heavyPlace_L30
    simp (disch := omega) only [ii_l0, ii_l1, ii_l2, ii_l40, ii_l100, ii_neg, ii_lt, cv_lt_eq, qX4_way]
    rw [if_neg (by omega), cv_gd_pos (ii_in (by omega) (by omega) (by omega)), e0, cv_gd_pos (ii_in hxp.1 hxp.2 (by omega)), qX4_sizes T hxp.1 (by omega), hs _ hxp.1 hxp.2, ha, hb, ii_add, ← e1, ii_sub, ii_sub, cv_max_ii (by omega) (by omega) (by omega) (by omega), ii_mul, ii_mul]
    have p1 : b * max (sl t xs (p + 1)) (sl t xs p - 1 - sl t xs (p + 1)) ≤ 5 * 82 := by
      have q1 : max (sl t xs (p + 1)) (sl t xs p - 1 - sl t xs (p + 1)) ≤ 82 := by omega
      have q2 : 0 ≤ max (sl t xs (p + 1)) (sl t xs p - 1 - sl t xs (p + 1)) := by omega
      exact Int.mul_le_mul (by omega) q1 q2 (by omega)
    have p2 : 0 ≤ b * max (sl t xs (p + 1)) (sl t xs p - 1 - sl t xs (p + 1)) := Int.mul_nonneg (by omega) (by omega)
    have p3 : a * sl t xs p ≤ 5 * 82 := Int.mul_le_mul (by omega) (by omega) (by omega) (by omega)
    have p4 : 0 ≤ a * sl t xs p := Int.mul_nonneg (by omega) (by omega)
    rw [tp_s]
    by_cases g : hc a b t xs p = true
    · have g' : a * sl t xs p < b * max (sl t xs (p + 1)) (sl t xs p - 1 - sl t xs (p + 1)) := of_decide_eq_true g
      rw [if_pos g, if_neg (fun z => by rw [ii_le (by omega) (by omega) (by omega) (by omega)] at z; omega)]
      congr 2
      omega
    · have g' : ¬ a * sl t xs p < b * max (sl t xs (p + 1)) (sl t xs p - 1 - sl t xs (p + 1)) := fun z => g (decide_eq_true z)
      rw [if_neg g, if_pos ((ii_le (by omega) (by omega) (by omega) (by omega)).mpr (by omega)), ii_add, show ((p + 1 : Nat) : Int) - 1 + -1 = (p : Int) - 1 by omega]
      exact heavy_L hr w hz hl hx ha hb hw hs p n (by omega) (by omega)
/-- where the first part too much on one side lies on the way; -1: it's not too deep, or there is none -/
def hp_ (a b : Int) (t : Tr) (k : Int) : Int := if ((wy k t).length : Int) ≤ lim a b (sz t + 1) then -1 else tp (hc a b t (wy k t)) (wy k t).length
theorem heavy_eq {a b : Int} (hr : rat a b) {t : Tr} {T : SX4} (h : ct T t) (hz : sz t ≤ 39) {k : Int} (ha : gX4_a T = ii a) (hb : gX4_b T = ii b) (hw : ∀ j : Nat, j < (wy k t).length → rd (gX4_way T) j = (wy k t).getD j 0) :
    fX4_heavyPlace T (ii (wy k t).length) = some (ii (hp_ a b t k)) := by
  obtain ⟨w, hbs, -, -, -, hs, hn⟩ := h
  have hl := wy_len t w k
  have h0 := sz_nonneg t w
  have l1 := lim_ok hr (n := sz t + 1) (by omega) (by omega)
  unfold fX4_heavyPlace hp_
  rw [hn, ii_l1, ii_add, cv_bd_eq (fX4_limit_eq T ha hb hr (by omega) (by omega))]
  simp (disch := omega) only [ii_lt]
  by_cases g : ((wy k t).length : Int) ≤ lim a b (sz t + 1)
  · rw [if_neg (by omega), if_pos g]
    rfl
  · rw [if_pos (by omega), if_neg g, cv_lt_eq, ii_l40, cv_min_ii (by omega) (by omega) (by omega) (by omega), ii_sub]
    have := heavy_L hr w (by omega) (xs := wy k t) (by omega) (fun x hx => by
      have := bst_mem t w _ _ hbs x (wy_sub t w k x hx)
      omega) ha hb hw hs (wy k t).length 256 (by omega) (by omega)
    rw [show sl t (wy k t) (wy k t).length = 1 by unfold sl; rw [if_neg (by omega)]] at this
    rw [show min ((wy k t).length : Int) 40 - 1 = ((wy k t).length : Int) - 1 by omega]
    exact this
/-- numbers in a row, each one changed by d -/
def bmp (d : Int) : (Nat → Int32) → List Int → Nat → Int32
  | f, [] => f
  | f, x :: xs => bmp d (upd f (ii x).toNatClampNeg (f (ii x).toNatClampNeg + ii d)) xs
theorem bmp_nil (d : Int) (f : Nat → Int32) : bmp d f [] = f := rfl
theorem bmp_cons (d : Int) (f : Nat → Int32) (x : Int) (xs : List Int) : bmp d f (x :: xs) = bmp d (upd f (ii x).toNatClampNeg (f (ii x).toNatClampNeg + ii d)) xs := rfl
theorem bmp_rd (d : Int) (hd : -1000 ≤ d ∧ d ≤ 1000) : ∀ (xs : List Int) (f : Nat → Int32), xs.Nodup → (∀ x ∈ xs, 0 ≤ x ∧ x < 100 ∧ -1000 ≤ rd f x ∧ rd f x ≤ 1000) → ∀ k : Int, 0 ≤ k → rd (bmp d f xs) k = rd f k + (if k ∈ xs then d else 0)
  | [], f, _, _, k, _ => by rw [bmp_nil]; simp
  | x :: xs, f, hn, hx, k, hk => by
    obtain ⟨n1, n2⟩ := List.nodup_cons.mp hn
    have h0 := hx x (by simp)
    have e : ∀ j : Int, 0 ≤ j → rd (upd f (ii x).toNatClampNeg (f (ii x).toNatClampNeg + ii d)) j = if j = x then rd f x + d else rd f j := fun j hj => by
      rw [rd_ii f h0.1 (by omega), ii_add, rd_upd f h0.1 (by omega) (by omega) (by omega) hj]
    rw [bmp_cons, bmp_rd d hd xs _ n2 (fun y hy => by
      have := hx y (by simp [hy])
      have hne : y ≠ x := fun z => n1 (by rw [← z]; exact hy)
      rw [e y this.1, if_neg hne]
      exact this) k hk, e k hk]
    by_cases c : k = x
    · subst c
      rw [if_pos rfl, if_neg n1, if_pos (by simp)]
      omega
    · rw [if_neg c]
      simp [c]
theorem change_L {d : Int} : ∀ (ys : List Int) (i : Int) (T : SX4) (n : Nat) (m : Int), 0 ≤ i → i + ys.length = m → m ≤ 40 → (∀ j : Nat, j < ys.length → rd (gX4_way T) (i + j) = ys.getD j 0) → (∀ y ∈ ys, 0 ≤ y ∧ y < 100) → ys.length < n →
    fX4_changeSizes_L2 (ii m) (ii d) n (ii i) T = some (sX4_sizes T (bmp d (gX4_sizes T) ys))
  | [], i, T, n, m, h1, h2, h3, _, _, hn => by
    obtain ⟨n, rfl⟩ : ∃ m, n = m + 1 := ⟨n - 1, by omega⟩
    rw [List.length_nil] at h2
    unfold fX4_changeSizes_L2
    rw [if_pos ((ii_le (by omega) (by omega) (by omega) (by omega)).mpr (by omega))]
    rfl
  | y :: ys, i, T, n, m, h1, h2, h3, hw, hy, hn => by
    rw [List.length_cons] at h2 hn
    obtain ⟨n, rfl⟩ : ∃ m, n = m + 1 := ⟨n - 1, by omega⟩
    have y0 := hy y (by simp)
    have e0 : rd (gX4_way T) i = y := by
      have := hw 0 (by simp)
      simpa using this
    unfold fX4_changeSizes_L2
    simp (disch := omega) only [ii_l0, ii_l1, ii_l2, ii_l40, ii_l100, ii_neg, ii_le, cv_lt_eq, qX4_way, e0]
    rw [if_neg (by omega), if_neg (by omega), cv_gd_pos (ii_in (by omega) (by omega) (by omega)), cv_gd_pos (ii_in y0.1 y0.2 (by omega)), cv_gd_pos (ii_in y0.1 y0.2 (by omega)), ii_add,
      change_L ys (i + 1) _ n m (by omega) (by omega) h3 (fun j hj => by
        have := hw (j + 1) (by rw [List.length_cons]; omega)
        simp only [eX4_lefts_lefts, eX4_rights_lefts, eX4_sizes_lefts, eX4_way_lefts, eX4_row_lefts, eX4_root_lefts, eX4_a_lefts, eX4_b_lefts, eX4_number_lefts, eX4_most_lefts, eX4_buildings_lefts, eX4_cost_lefts, eX4_lefts_rights, eX4_rights_rights, eX4_sizes_rights, eX4_way_rights, eX4_row_rights, eX4_root_rights, eX4_a_rights, eX4_b_rights, eX4_number_rights, eX4_most_rights, eX4_buildings_rights, eX4_cost_rights, eX4_lefts_sizes, eX4_rights_sizes, eX4_sizes_sizes, eX4_way_sizes, eX4_row_sizes, eX4_root_sizes, eX4_a_sizes, eX4_b_sizes, eX4_number_sizes, eX4_most_sizes, eX4_buildings_sizes, eX4_cost_sizes, eX4_lefts_way, eX4_rights_way, eX4_sizes_way, eX4_way_way, eX4_row_way, eX4_root_way, eX4_a_way, eX4_b_way, eX4_number_way, eX4_most_way, eX4_buildings_way, eX4_cost_way, eX4_lefts_row, eX4_rights_row, eX4_sizes_row, eX4_way_row, eX4_row_row, eX4_root_row, eX4_a_row, eX4_b_row, eX4_number_row, eX4_most_row, eX4_buildings_row, eX4_cost_row, eX4_lefts_root, eX4_rights_root, eX4_sizes_root, eX4_way_root, eX4_row_root, eX4_root_root, eX4_a_root, eX4_b_root, eX4_number_root, eX4_most_root, eX4_buildings_root, eX4_cost_root, eX4_lefts_a, eX4_rights_a, eX4_sizes_a, eX4_way_a, eX4_row_a, eX4_root_a, eX4_a_a, eX4_b_a, eX4_number_a, eX4_most_a, eX4_buildings_a, eX4_cost_a, eX4_lefts_b, eX4_rights_b, eX4_sizes_b, eX4_way_b, eX4_row_b, eX4_root_b, eX4_a_b, eX4_b_b, eX4_number_b, eX4_most_b, eX4_buildings_b, eX4_cost_b, eX4_lefts_number, eX4_rights_number, eX4_sizes_number, eX4_way_number, eX4_row_number, eX4_root_number, eX4_a_number, eX4_b_number, eX4_number_number, eX4_most_number, eX4_buildings_number, eX4_cost_number, eX4_lefts_most, eX4_rights_most, eX4_sizes_most, eX4_way_most, eX4_row_most, eX4_root_most, eX4_a_most, eX4_b_most, eX4_number_most, eX4_most_most, eX4_buildings_most, eX4_cost_most, eX4_lefts_buildings, eX4_rights_buildings, eX4_sizes_buildings, eX4_way_buildings, eX4_row_buildings, eX4_root_buildings, eX4_a_buildings, eX4_b_buildings, eX4_number_buildings, eX4_most_buildings, eX4_buildings_buildings, eX4_cost_buildings, eX4_lefts_cost, eX4_rights_cost, eX4_sizes_cost, eX4_way_cost, eX4_row_cost, eX4_root_cost, eX4_a_cost, eX4_b_cost, eX4_number_cost, eX4_most_cost, eX4_buildings_cost, eX4_cost_cost]
        rw [show i + 1 + (j : Int) = i + ((j + 1 : Nat) : Int) by omega, this]
        simp) (fun z hz => hy z (by simp [hz])) (by omega), bmp_cons]
    rfl
theorem change_eq {d : Int} {xs : List Int} {T : SX4} (hl : xs.length ≤ 40) (hw : ∀ j : Nat, j < xs.length → rd (gX4_way T) j = xs.getD j 0) (hx : ∀ y ∈ xs, 0 ≤ y ∧ y < 100) : fX4_changeSizes T (ii xs.length) (ii d) = some (sX4_sizes T (bmp d (gX4_sizes T) xs)) := by
  unfold fX4_changeSizes
  rw [ii_l0, cv_bd_eq (change_L xs 0 T 256 xs.length (by omega) (by omega) (by omega) (fun j hj => by rw [← hw j hj]; congr 1; omega) hx (by omega))]
/-- one below another one -/
def hng (T : SX4) (p k v : Int) : SX4 := if p = -1 then sX4_root T (ii v) else if k < p then sX4_lefts T (upd (gX4_lefts T) (ii p).toNatClampNeg (ii v)) else sX4_rights T (upd (gX4_rights T) (ii p).toNatClampNeg (ii v))
theorem hang_eq (T : SX4) {p k v : Int} (h1 : -1 ≤ p) (h2 : p < 100) (h3 : -1 ≤ k) (h4 : k < 100) : fX4_hang T (ii p) (ii k) (ii v) = some (hng T p k v) := by
  unfold fX4_hang hng
  simp (disch := omega) only [ii_l0, ii_l1, ii_l2, ii_l40, ii_l100, ii_neg, ii_eq, ii_le, cv_lt_eq]
  by_cases e : p = -1
  · rw [if_pos e, if_pos e]
  · rw [if_neg e, if_neg e]
    by_cases g : k < p
    · rw [if_neg (by omega), if_pos g, cv_gd_pos (ii_in (by omega) h2 (by omega))]
    · rw [if_pos (by omega), if_neg g, cv_gd_pos (ii_in (by omega) h2 (by omega))]
