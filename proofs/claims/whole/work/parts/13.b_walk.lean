/-! the class's tree: the way down -/
/-- a tree of the class holds t -/
def ct (T : SX4) (t : Tr) : Prop := tr_wf t ∧ bst (-1) 100 t ∧ sz t ≤ 40 ∧ gX4_root T = ii (rt t) ∧ rp (rd (gX4_lefts T)) (rd (gX4_rights T)) t ∧ (∀ k : Int, 0 ≤ k → k < 100 → rd (gX4_sizes T) k = sz (at_ k t)) ∧ gX4_number T = ii (sz t)
/-- a row written from a place on -/
def wrt (f : Nat → Int32) : Int → List Int → Nat → Int32
  | _, [] => f
  | i, x :: xs => wrt (upd f (ii i).toNatClampNeg (ii x)) (i + 1) xs
theorem wrt_nil (f : Nat → Int32) (i : Int) : wrt f i [] = f := rfl
theorem wrt_cons (f : Nat → Int32) (i x : Int) (xs : List Int) : wrt f i (x :: xs) = wrt (upd f (ii i).toNatClampNeg (ii x)) (i + 1) xs := rfl
theorem wrt_rd : ∀ (xs : List Int) (f : Nat → Int32) (i j : Int), 0 ≤ i → i + xs.length < 2147483648 → (∀ x ∈ xs, -2147483648 ≤ x ∧ x < 2147483648) → 0 ≤ j → rd (wrt f i xs) j = if i ≤ j ∧ j < i + xs.length then xs.getD (j - i).toNat 0 else rd f j
  | [], f, i, j, _, _, _, _ => by rw [wrt_nil, if_neg (by simp only [List.length_nil]; omega)]
  | x :: xs, f, i, j, h1, h2, h3, h4 => by
    rw [List.length_cons] at h2
    have hx := h3 x (by simp)
    rw [wrt_cons, wrt_rd xs _ (i + 1) j (by omega) (by omega) (fun y hy => h3 y (by simp [hy])) h4, rd_upd f h1 (by omega) hx.1 hx.2 h4, List.length_cons]
    by_cases e : j = i
    · subst e
      rw [if_neg (by omega), if_pos rfl, if_pos (by omega)]
      simp
    · rw [if_neg e]
      by_cases g : i + 1 ≤ j ∧ j < i + 1 + xs.length
      · rw [if_pos g, if_pos (by omega), show (j - i).toNat = (j - (i + 1)).toNat + 1 by omega]
        simp
      · rw [if_neg g, if_neg (by omega)]
theorem has_f (T : SX4) {k : Int} (h1 : -2147483648 ≤ k) (h2 : k < 2147483648) (h : ¬ (0 ≤ k ∧ k < 100 ∧ 0 < rd (gX4_sizes T) k)) : fX4_has T (ii k) = some (ii 0) := by rw [fX4_has_eq T h1 h2, if_neg h]
theorem has_t (T : SX4) {k : Int} (h1 : 0 ≤ k) (h2 : k < 100) (h : 0 < rd (gX4_sizes T) k) : fX4_has T (ii k) = some (ii 1) := by rw [fX4_has_eq T (by omega) (by omega), if_pos ⟨h1, h2, h⟩]
theorem walk_lf {k : Int} (n : Nat) {i : Int} (T : SX4) : fX4_walk_L7 (ii k) (n + 1) (ii i) (ii (-1)) T = some (ii i, T) := by
  unfold fX4_walk_L7
  rw [cv_bd_eq (has_f T (k := -1) (by omega) (by omega) (by omega)), ii_l0, if_pos rfl]
theorem walk_L {k : Int} (hk1 : -2147483648 ≤ k) (hk2 : k < 2147483648) : ∀ t : Tr, tr_wf t → ∀ (lo hi : Int), bst lo hi t → -1 ≤ lo → hi ≤ 100 → ∀ (T : SX4) (n : Nat) (i : Int), rp (rd (gX4_lefts T)) (rd (gX4_rights T)) t → (∀ x ∈ ks t, 0 < rd (gX4_sizes T) x) → 0 ≤ i → i + (wy k t).length ≤ 40 → (wy k t).length < n →
    fX4_walk_L7 (ii k) n (ii i) (ii (rt t)) T = some (ii (i + (wy k t).length), sX4_way T (wrt (gX4_way T) i (wy k t))) := tr_ind (fun lo hi _ _ _ T n i _ _ _ _ hn => by
  obtain ⟨n, rfl⟩ : ∃ m, n = m + 1 := ⟨n - 1, by omega⟩
  rw [rt_lf, walk_lf, wy_lf, wrt_nil]
  simp
  rfl) (fun x l r w1 w2 h1 h2 lo hi hb hlo hhi T n i hp hs hi0 hlen hn => by
  obtain ⟨a1, a2, a3, a4⟩ := bst_nd.mp hb
  obtain ⟨b1, b2, b3, b4⟩ := rp_nd.mp hp
  rw [wy_nd, List.length_cons] at hlen hn
  obtain ⟨n, rfl⟩ : ∃ m, n = m + 1 := ⟨n - 1, by omega⟩
  have sx := hs x (by rw [ks_nd]; simp)
  rw [rt_nd, wy_nd, List.length_cons, wrt_cons]
  unfold fX4_walk_L7
  rw [cv_bd_eq (has_t T (by omega) (by omega) sx)]
  simp (disch := omega) only [ii_l0, ii_l1, ii_l2, ii_l40, ii_l100, ii_neg, ii_eq, ii_le, cv_lt_eq]
  rw [if_neg (by omega), if_neg (by omega), cv_gd_pos (ii_in hi0 (by omega) (by omega))]
  simp only [ii_add]
  by_cases e : k = x
  · rw [if_pos e, cv_bd_some]
    rw [if_pos e] at hlen hn
    obtain ⟨n, rfl⟩ : ∃ m, n = m + 1 := ⟨n - 1, by omega⟩
    rw [if_pos e, walk_lf, wrt_nil]
    simp
  · rw [if_neg e]
    rw [if_neg e] at hlen hn
    rw [if_neg e]
    by_cases g : k < x
    · rw [if_pos g] at hlen hn
      rw [if_neg (by omega), cv_gd_pos (ii_in (by omega) (by omega) (by omega)), cv_bd_some, if_pos g]
      simp only [eX4_lefts_lefts, eX4_rights_lefts, eX4_sizes_lefts, eX4_way_lefts, eX4_row_lefts, eX4_root_lefts, eX4_a_lefts, eX4_b_lefts, eX4_number_lefts, eX4_most_lefts, eX4_buildings_lefts, eX4_cost_lefts, eX4_lefts_rights, eX4_rights_rights, eX4_sizes_rights, eX4_way_rights, eX4_row_rights, eX4_root_rights, eX4_a_rights, eX4_b_rights, eX4_number_rights, eX4_most_rights, eX4_buildings_rights, eX4_cost_rights, eX4_lefts_sizes, eX4_rights_sizes, eX4_sizes_sizes, eX4_way_sizes, eX4_row_sizes, eX4_root_sizes, eX4_a_sizes, eX4_b_sizes, eX4_number_sizes, eX4_most_sizes, eX4_buildings_sizes, eX4_cost_sizes, eX4_lefts_way, eX4_rights_way, eX4_sizes_way, eX4_way_way, eX4_row_way, eX4_root_way, eX4_a_way, eX4_b_way, eX4_number_way, eX4_most_way, eX4_buildings_way, eX4_cost_way, eX4_lefts_row, eX4_rights_row, eX4_sizes_row, eX4_way_row, eX4_row_row, eX4_root_row, eX4_a_row, eX4_b_row, eX4_number_row, eX4_most_row, eX4_buildings_row, eX4_cost_row, eX4_lefts_root, eX4_rights_root, eX4_sizes_root, eX4_way_root, eX4_row_root, eX4_root_root, eX4_a_root, eX4_b_root, eX4_number_root, eX4_most_root, eX4_buildings_root, eX4_cost_root, eX4_lefts_a, eX4_rights_a, eX4_sizes_a, eX4_way_a, eX4_row_a, eX4_root_a, eX4_a_a, eX4_b_a, eX4_number_a, eX4_most_a, eX4_buildings_a, eX4_cost_a, eX4_lefts_b, eX4_rights_b, eX4_sizes_b, eX4_way_b, eX4_row_b, eX4_root_b, eX4_a_b, eX4_b_b, eX4_number_b, eX4_most_b, eX4_buildings_b, eX4_cost_b, eX4_lefts_number, eX4_rights_number, eX4_sizes_number, eX4_way_number, eX4_row_number, eX4_root_number, eX4_a_number, eX4_b_number, eX4_number_number, eX4_most_number, eX4_buildings_number, eX4_cost_number, eX4_lefts_most, eX4_rights_most, eX4_sizes_most, eX4_way_most, eX4_row_most, eX4_root_most, eX4_a_most, eX4_b_most, eX4_number_most, eX4_most_most, eX4_buildings_most, eX4_cost_most, eX4_lefts_buildings, eX4_rights_buildings, eX4_sizes_buildings, eX4_way_buildings, eX4_row_buildings, eX4_root_buildings, eX4_a_buildings, eX4_b_buildings, eX4_number_buildings, eX4_most_buildings, eX4_buildings_buildings, eX4_cost_buildings, eX4_lefts_cost, eX4_rights_cost, eX4_sizes_cost, eX4_way_cost, eX4_row_cost, eX4_root_cost, eX4_a_cost, eX4_b_cost, eX4_number_cost, eX4_most_cost, eX4_buildings_cost, eX4_cost_cost]
      rw [qX4_lefts T (by omega) (by omega), b1]
      refine (h1 lo x a3 hlo (by omega) (sX4_way T (upd (gX4_way T) (ii i).toNatClampNeg (ii x))) n (i + 1) b3 (fun y hy => hs y (by rw [ks_nd]; simp [hy])) (by omega) (by omega) (by omega)).trans ?_
      rw [show i + ((wy k l).length + 1 : Nat) = i + 1 + (wy k l).length by omega]
      rfl
    · rw [if_neg g] at hlen hn
      rw [if_pos (by omega), cv_gd_pos (ii_in (by omega) (by omega) (by omega)), cv_bd_some, if_neg g]
      simp only [eX4_lefts_lefts, eX4_rights_lefts, eX4_sizes_lefts, eX4_way_lefts, eX4_row_lefts, eX4_root_lefts, eX4_a_lefts, eX4_b_lefts, eX4_number_lefts, eX4_most_lefts, eX4_buildings_lefts, eX4_cost_lefts, eX4_lefts_rights, eX4_rights_rights, eX4_sizes_rights, eX4_way_rights, eX4_row_rights, eX4_root_rights, eX4_a_rights, eX4_b_rights, eX4_number_rights, eX4_most_rights, eX4_buildings_rights, eX4_cost_rights, eX4_lefts_sizes, eX4_rights_sizes, eX4_sizes_sizes, eX4_way_sizes, eX4_row_sizes, eX4_root_sizes, eX4_a_sizes, eX4_b_sizes, eX4_number_sizes, eX4_most_sizes, eX4_buildings_sizes, eX4_cost_sizes, eX4_lefts_way, eX4_rights_way, eX4_sizes_way, eX4_way_way, eX4_row_way, eX4_root_way, eX4_a_way, eX4_b_way, eX4_number_way, eX4_most_way, eX4_buildings_way, eX4_cost_way, eX4_lefts_row, eX4_rights_row, eX4_sizes_row, eX4_way_row, eX4_row_row, eX4_root_row, eX4_a_row, eX4_b_row, eX4_number_row, eX4_most_row, eX4_buildings_row, eX4_cost_row, eX4_lefts_root, eX4_rights_root, eX4_sizes_root, eX4_way_root, eX4_row_root, eX4_root_root, eX4_a_root, eX4_b_root, eX4_number_root, eX4_most_root, eX4_buildings_root, eX4_cost_root, eX4_lefts_a, eX4_rights_a, eX4_sizes_a, eX4_way_a, eX4_row_a, eX4_root_a, eX4_a_a, eX4_b_a, eX4_number_a, eX4_most_a, eX4_buildings_a, eX4_cost_a, eX4_lefts_b, eX4_rights_b, eX4_sizes_b, eX4_way_b, eX4_row_b, eX4_root_b, eX4_a_b, eX4_b_b, eX4_number_b, eX4_most_b, eX4_buildings_b, eX4_cost_b, eX4_lefts_number, eX4_rights_number, eX4_sizes_number, eX4_way_number, eX4_row_number, eX4_root_number, eX4_a_number, eX4_b_number, eX4_number_number, eX4_most_number, eX4_buildings_number, eX4_cost_number, eX4_lefts_most, eX4_rights_most, eX4_sizes_most, eX4_way_most, eX4_row_most, eX4_root_most, eX4_a_most, eX4_b_most, eX4_number_most, eX4_most_most, eX4_buildings_most, eX4_cost_most, eX4_lefts_buildings, eX4_rights_buildings, eX4_sizes_buildings, eX4_way_buildings, eX4_row_buildings, eX4_root_buildings, eX4_a_buildings, eX4_b_buildings, eX4_number_buildings, eX4_most_buildings, eX4_buildings_buildings, eX4_cost_buildings, eX4_lefts_cost, eX4_rights_cost, eX4_sizes_cost, eX4_way_cost, eX4_row_cost, eX4_root_cost, eX4_a_cost, eX4_b_cost, eX4_number_cost, eX4_most_cost, eX4_buildings_cost, eX4_cost_cost]
      rw [qX4_rights T (by omega) (by omega), b2]
      refine (h2 x hi a4 (by omega) hhi (sX4_way T (upd (gX4_way T) (ii i).toNatClampNeg (ii x))) n (i + 1) b4 (fun y hy => hs y (by rw [ks_nd]; simp [hy])) (by omega) (by omega) (by omega)).trans ?_
      rw [show i + ((wy k r).length + 1 : Nat) = i + 1 + (wy k r).length by omega]
      rfl)
theorem ct_sizes {T : SX4} {t : Tr} (h : ct T t) {x : Int} (hx : x ∈ ks t) : 0 < rd (gX4_sizes T) x := by
  obtain ⟨w, hb, -, -, -, hs, -⟩ := h
  have := bst_mem t w _ _ hb x hx
  rw [hs x (by omega) (by omega)]
  exact (at_pos w hb).mpr hx
theorem ct_has {T : SX4} {t : Tr} (h : ct T t) {k : Int} (h1 : -2147483648 ≤ k) (h2 : k < 2147483648) : fX4_has T (ii k) = some (if k ∈ ks t then ii 1 else ii 0) := by
  rw [fX4_has_eq T h1 h2]
  by_cases hk : k ∈ ks t
  · have := bst_mem t h.1 _ _ h.2.1 k hk
    rw [if_pos hk, if_pos ⟨by omega, by omega, ct_sizes h hk⟩]
  · rw [if_neg hk, if_neg (fun q => hk ?_)]
    obtain ⟨q1, q2, q3⟩ := q
    rw [h.2.2.2.2.2.1 k q1 q2] at q3
    exact (at_pos h.1 h.2.1).mp q3
theorem ct_walk {T : SX4} {t : Tr} (h : ct T t) {k : Int} (h1 : -2147483648 ≤ k) (h2 : k < 2147483648) : fX4_walk T (ii k) = some (ii (wy k t).length, sX4_way T (wrt (gX4_way T) 0 (wy k t))) := by
  unfold fX4_walk
  have hl := wy_len t h.1 k
  have h3 := h.2.2.1
  rw [cv_lt_eq, h.2.2.2.1, ii_l0, cv_bd_eq (walk_L h1 h2 t h.1 (-1) 100 h.2.1 (by omega) (by omega) T 256 0 h.2.2.2.2.1 (fun x hx => ct_sizes h hx) (by omega) (by omega) (by omega))]
  simp
