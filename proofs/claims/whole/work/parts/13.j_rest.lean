/-! the class's tree: the rest -/
theorem ct_way {T : SX4} {t : Tr} (h : ct T t) (f : Nat → Int32) : ct (sX4_way T f) t := h
theorem cn_way {T : SX4} {a b m d c : Int} (h : cn T a b m d c) (f : Nat → Int32) : cn (sX4_way T f) a b m d c := h
theorem turn_take {T : SX4} {t : Tr} (h : ct T t) {a b m d c : Int} (hr : rat a b) (hn : cn T a b m d c) (hm : 0 ≤ m ∧ m ≤ 40) {k : Int} (hk : k ∈ ks t) :
    ∃ T', fX4_turn T (ii k) = some T' ∧ ct T' (drT a b m t k) ∧ cn T' a b (drO a b m t) (d + drD a b m t) (c + drN a b m t) := by
  obtain ⟨T', e1, e2, e3⟩ := drop_eq h hr hn hm hk
  have k0 := bst_mem t h.1 _ _ h.2.1 k hk
  refine ⟨T', ?_, e2, e3⟩
  unfold fX4_turn
  rw [cv_bd_eq (has_t T (by omega) (by omega) (ct_sizes h hk)), ii_l0, if_neg (fun z => by rw [ii_eq (by omega) (by omega) (by omega) (by omega)] at z; omega), cv_bd_eq e1]
theorem has_no {T : SX4} {t : Tr} (h : ct T t) {k : Int} (h1 : -2147483648 ≤ k) (h2 : k < 2147483648) (hk : k ∉ ks t) : fX4_has T (ii k) = some (ii 0) := by rw [ct_has h h1 h2, if_neg hk]
theorem has_yes {T : SX4} {t : Tr} (h : ct T t) {k : Int} (hk : k ∈ ks t) : fX4_has T (ii k) = some (ii 1) := by
  have k0 := bst_mem t h.1 _ _ h.2.1 k hk
  rw [ct_has h (by omega) (by omega), if_pos hk]
theorem full_eq {T : SX4} {t : Tr} (h : ct T t) : fX4_isFull T = some (if sz t = 40 then ii 1 else ii 0) := by
  have := sz_nonneg t h.1
  have := h.2.2.1
  rw [fX4_isFull_eq T h.2.2.2.2.2.2 (by omega) (by omega)]
  by_cases z : sz t = 40
  · rw [if_pos (by omega), if_pos z]
  · rw [if_neg (by omega), if_neg z]
theorem full_no {T : SX4} {t : Tr} (h : ct T t) (hz : sz t ≤ 39) : fX4_isFull T = some (ii 0) := by rw [full_eq h, if_neg (by omega)]
theorem full_yes {T : SX4} {t : Tr} (h : ct T t) (hz : sz t = 40) : fX4_isFull T = some (ii 1) := by rw [full_eq h, if_pos hz]
theorem turn_put {T : SX4} {t : Tr} (h : ct T t) {a b m d c : Int} (hr : rat a b) (hn : cn T a b m d c) (hm : 0 ≤ m ∧ m ≤ 40) {k : Int} (k0 : 0 ≤ k) (k1 : k < 100) (hk : k ∉ ks t) (hz : sz t ≤ 39) :
    ∃ T', fX4_turn T (ii k) = some T' ∧ ct T' (adT a b t k) ∧ cn T' a b (max m (sz t + 1)) (d + adD a b t k) (c + adN a b t k) := by
  obtain ⟨T', e1, e2, e3⟩ := add_eq h hr hn hm k0 k1 hk hz
  refine ⟨T', ?_, e2, e3⟩
  unfold fX4_turn
  rw [cv_bd_eq (has_no h (by omega) (by omega) hk), ii_l0, if_pos rfl, cv_bd_eq (full_no h hz), if_pos rfl, cv_bd_eq e1]
theorem turn_full {T : SX4} {t : Tr} (h : ct T t) {k : Int} (k0 : 0 ≤ k) (k1 : k < 100) (hk : k ∉ ks t) (hz : sz t = 40) : fX4_turn T (ii k) = some T := by
  unfold fX4_turn
  rw [cv_bd_eq (has_no h (by omega) (by omega) hk), ii_l0, if_pos rfl, cv_bd_eq (full_yes h hz), if_neg (fun z => by rw [ii_eq (by omega) (by omega) (by omega) (by omega)] at z; omega)]
theorem would_eq {T : SX4} {t : Tr} (h : ct T t) {a b m d c : Int} (hr : rat a b) (hn : cn T a b m d c) {k : Int} (k0 : 0 ≤ k) (k1 : k < 100) (hz : sz t ≤ 39) :
    fX4_wouldBuild T (ii k) = some (ii (adN a b t k), sX4_way T (wrt (gX4_way T) 0 (wy k t))) := by
  have hwalk := ct_walk h (k := k) (by omega) (by omega)
  have h' := h
  obtain ⟨w, hb, hz', hrt, hp, hs, hnum⟩ := h
  have hl := wy_len t w k
  have xin : ∀ x ∈ wy k t, 0 ≤ x ∧ x < 100 := fun x hx => by
    have := bst_mem t w _ _ hb x (wy_sub t w k x hx)
    omega
  obtain ⟨T1, hT1⟩ : ∃ T1, T1 = sX4_way T (wrt (gX4_way T) 0 (wy k t)) := ⟨_, rfl⟩
  rw [← hT1] at hwalk ⊢
  have c1 : ct T1 t := by rw [hT1]; exact h'
  have n1 : cn T1 a b m d c := by rw [hT1]; exact hn
  have w1 : ∀ j : Nat, j < (wy k t).length → rd (gX4_way T1) j = (wy k t).getD j 0 := fun j hj => by
    rw [hT1]
    exact walk_way (by omega) xin _ hj
  have hheavy := heavy_eq hr c1 hz (k := k) n1.1 n1.2.1 w1
  unfold fX4_wouldBuild adN
  rw [cv_bd_eq hwalk]
  simp only [ii_l0, ii_l1, ii_l2, ii_l40, ii_l100, ii_neg]
  rw [cv_bd_eq hheavy]
  rcases hp_in a b t k with z | z
  · rw [z, if_pos rfl, if_pos rfl]
  · obtain ⟨q, hq⟩ : ∃ q : Nat, hp_ a b t k = q := ⟨(hp_ a b t k).toNat, by omega⟩
    have hm := getD_mem (xs := wy k t) (p := q) (by omega)
    have hx := xin _ hm
    have ex : hx_ a b t k = (wy k t).getD q 0 := by unfold hx_; rw [hq]; rfl
    rw [hq, if_neg (fun z => by rw [ii_eq (by omega) (by omega) (by omega) (by omega)] at z; omega), cv_gd_pos (ii_in (by omega) (by omega) (by omega)), qX4_way T1 (by omega) (by omega), w1 q (by omega), cv_gd_pos (ii_in hx.1 hx.2 (by omega)), qX4_sizes T1 hx.1 (by omega), c1.2.2.2.2.2.1 _ hx.1 hx.2, ii_add, if_neg (by omega), ex]
theorem above_eq {T : SX4} {t : Tr} (h : ct T t) {k : Int} (hk : k ∈ ks t) : fX4_above T (ii k) = some (ii (pa k (-1) t), sX4_way T (wrt (gX4_way T) 0 (wy k t))) := by
  have k0 := bst_mem t h.1 _ _ h.2.1 k hk
  have hwalk := ct_walk h (k := k) (by omega) (by omega)
  obtain ⟨w, hb, hz', -⟩ := id h
  obtain ⟨xs, ew, epa⟩ := wy_there k t w _ _ (-1) hb hk
  have hl := wy_len t w k
  have xin : ∀ x ∈ wy k t, 0 ≤ x ∧ x < 100 := fun x hx => by
    have := bst_mem t w _ _ hb x (wy_sub t w k x hx)
    omega
  rw [ew] at hwalk hl xin ⊢
  rw [List.length_append, List.length_singleton] at hl
  have ly : (xs ++ [k]).length = xs.length + 1 := by rw [List.length_append, List.length_singleton]
  unfold fX4_above
  rw [cv_bd_eq hwalk]
  simp only [ii_l0, ii_l1, ii_l2, ii_l40, ii_l100, ii_neg]
  rw [ii_sub]
  rw [cv_bd_eq (fX4_onWay_eq _ (by omega) (by omega)), epa, ly]
  by_cases z : xs.length = 0
  · rw [if_neg (by omega), List.length_eq_zero_iff.mp z]; rfl
  · rw [if_pos (by omega), ← last_at xs k (by omega), ← walk_way (xs := xs ++ [k]) (by omega) xin (gX4_way T) (j := xs.length - 1) (by omega)]
    congr 4
    omega
/-- how many keys are less -/
def lsn (t : Tr) (k : Int) : Int := ((fil (fun j => decide (j ∈ ks t)) 0 k.toNat).length : Int)
theorem fil_len (P : Int → Bool) : ∀ (m : Nat) (c : Int), (fil P c m).length ≤ m
  | 0, c => by rw [fil_0]; simp
  | m + 1, c => by
    have := fil_len P m (c + 1)
    rw [fil_s]
    split
    · rw [List.length_cons]; omega
    · omega
theorem lesser_L {T : SX4} {t : Tr} (h : ct T t) {k : Int} (hk : k ≤ 100) : ∀ (m n : Nat) (c s : Int), 0 ≤ c → c + m = k → 0 ≤ s → s + m ≤ 1000 → m < n → fX4_lesser_L4 T (ii k) n (ii s) (ii c) = some (ii (s + (fil (fun j => decide (j ∈ ks t)) c m).length))
  | 0, n, c, s, h1, h2, h3, h4, hn => by
    obtain ⟨n, rfl⟩ : ∃ m, n = m + 1 := ⟨n - 1, by omega⟩
    unfold fX4_lesser_L4
    rw [if_pos ((ii_le (by omega) (by omega) (by omega) (by omega)).mpr (by omega)), fil_0]
    simp
  | m + 1, n, c, s, h1, h2, h3, h4, hn => by
    obtain ⟨n, rfl⟩ : ∃ m, n = m + 1 := ⟨n - 1, by omega⟩
    unfold fX4_lesser_L4
    simp (disch := omega) only [ii_l0, ii_l1, ii_l2, ii_l40, ii_l100, ii_neg, ii_le, cv_lt_eq]
    rw [if_neg (by omega), if_neg (by omega), fil_s]
    by_cases z : c ∈ ks t
    · rw [cv_bd_eq (has_yes h z), if_neg (fun z => by rw [ii_eq (by omega) (by omega) (by omega) (by omega)] at z; omega), cv_bd_some, ii_add, ii_add, lesser_L h hk m n (c + 1) (s + 1) (by omega) (by omega) (by omega) (by omega) (by omega), if_pos (decide_eq_true z), List.length_cons]
      congr 2
      omega
    · rw [cv_bd_eq (has_no h (by omega) (by omega) z), if_pos rfl, cv_bd_some, ii_add, lesser_L h hk m n (c + 1) s (by omega) (by omega) h3 (by omega) (by omega), if_neg (fun y => z (of_decide_eq_true y))]
theorem lesser_eq {T : SX4} {t : Tr} (h : ct T t) {k : Int} (k0 : 0 ≤ k) (k1 : k ≤ 100) : fX4_lesser T (ii k) = some (ii (lsn t k)) := by
  unfold fX4_lesser lsn
  rw [ii_l0, cv_bd_eq (lesser_L h k1 k.toNat 256 0 0 (by omega) (by omega) (by omega) (by omega) (by omega)), Int.zero_add]
/-- the greatest depth of n keys from c on -/
def tlf (t : Tr) : Nat → Int → Int → Int
  | 0, _, s => s
  | n + 1, c, s => tlf t n (c + 1) (if c ∈ ks t then max s ((wy c t).length - 1) else s)
def tl (t : Tr) : Int := tlf t 100 0 (-1)
theorem tall_L {t : Tr} : ∀ (m n : Nat) (c s : Int) (T : SX4), ct T t → 0 ≤ c → c + m = 100 → -1 ≤ s → s ≤ 40 → m < n → ∃ f, fX4_tall_L4 n (ii s) (ii c) T = some (ii (tlf t m c s), sX4_way T f)
  | 0, n, c, s, T, h, h1, h2, h3, h4, hn => by
    obtain ⟨n, rfl⟩ : ∃ m, n = m + 1 := ⟨n - 1, by omega⟩
    refine ⟨gX4_way T, ?_⟩
    unfold fX4_tall_L4
    rw [ii_l100, if_pos ((ii_le (by omega) (by omega) (by omega) (by omega)).mpr (by omega))]
    rfl
  | m + 1, n, c, s, T, h, h1, h2, h3, h4, hn => by
    obtain ⟨n, rfl⟩ : ∃ m, n = m + 1 := ⟨n - 1, by omega⟩
    have hl := wy_len t h.1 c
    have hz := h.2.2.1
    unfold fX4_tall_L4
    simp (disch := omega) only [ii_l0, ii_l1, ii_l2, ii_l40, ii_l100, ii_neg, ii_le, cv_lt_eq]
    rw [if_neg (by omega)]
    by_cases z : c ∈ ks t
    · obtain ⟨f, e⟩ := tall_L m n (c + 1) (max s ((wy c t).length - 1)) (sX4_way T (wrt (gX4_way T) 0 (wy c t))) (ct_way h _) (by omega) (by omega) (by omega) (by omega) (by omega)
      refine ⟨f, ?_⟩
      rw [cv_bd_eq (has_yes h z), if_neg (fun z => by rw [ii_eq (by omega) (by omega) (by omega) (by omega)] at z; omega), cv_bd_eq (ct_walk h (by omega) (by omega))]
      simp only []
      rw [ii_sub, cv_max_ii (by omega) (by omega) (by omega) (by omega), cv_bd_some, ii_add]
      simp only [tlf, if_pos z]
      exact e
    · obtain ⟨f, e⟩ := tall_L m n (c + 1) s T h (by omega) (by omega) h3 h4 (by omega)
      refine ⟨f, ?_⟩
      rw [cv_bd_eq (has_no h (by omega) (by omega) z), if_pos rfl, cv_bd_some, ii_add]
      simp only [tlf, if_neg z]
      exact e
theorem tall_eq {T : SX4} {t : Tr} (h : ct T t) : ∃ f, fX4_tall T = some (ii (tl t), sX4_way T f) := by
  obtain ⟨f, e⟩ := tall_L 100 256 0 (-1) T h (by omega) (by omega) (by omega) (by omega) (by omega)
  refine ⟨f, ?_⟩
  unfold fX4_tall tl
  simp only [ii_l0, ii_l1, ii_l2, ii_l40, ii_l100, ii_neg]
  rw [cv_bd_eq e]
theorem fill_L {N : Nat} (hN : N ≤ 255) {v : Int} (hv : -2147483648 ≤ v ∧ v < 2147483648) : ∀ (m n : Nat) (c : Int) (f : Nat → Int32), 0 ≤ c → c + m = N → m < n → ∃ g, fJ7_fill_53178_L5 N (ii v) (ii N) n (ii c) f = some g ∧ ∀ j : Int, 0 ≤ j → rd g j = if c ≤ j ∧ j < N then v else rd f j
  | 0, n, c, f, h1, h2, hn => by
    obtain ⟨n, rfl⟩ : ∃ m, n = m + 1 := ⟨n - 1, by omega⟩
    refine ⟨f, ?_, fun j hj => by rw [if_neg (by omega)]⟩
    unfold fJ7_fill_53178_L5
    rw [if_pos ((ii_le (by omega) (by omega) (by omega) (by omega)).mpr (by omega))]
  | m + 1, n, c, f, h1, h2, hn => by
    obtain ⟨n, rfl⟩ : ∃ m, n = m + 1 := ⟨n - 1, by omega⟩
    obtain ⟨g, e1, e2⟩ := fill_L hN hv m n (c + 1) (upd f (ii c).toNatClampNeg (ii v)) (by omega) (by omega) (by omega)
    refine ⟨g, ?_, fun j hj => ?_⟩
    · unfold fJ7_fill_53178_L5
      rw [if_neg (fun z => by rw [ii_le (by omega) (by omega) (by omega) (by omega)] at z; omega), cv_gd_pos (ii_in h1 (by omega) (by omega)), cv_lt_eq, cv_lt_eq, ii_l1, ii_add]
      exact e1
    · rw [e2 j hj, rd_upd f h1 (by omega) hv.1 hv.2 hj]
      by_cases z : j = c
      · rw [if_neg (by omega), if_pos z, if_pos (by omega)]
      · rw [if_neg z]
        by_cases y : c + 1 ≤ j ∧ j < N
        · rw [if_pos y, if_pos (by omega)]
        · rw [if_neg y, if_neg (by omega)]
theorem begin_eq (T : SX4) (a b : Int) : ∃ T', fX4_begin T (ii a) (ii b) = some T' ∧ ct T' lf ∧ cn T' a b 0 0 0 := by
  obtain ⟨g, e1, e2⟩ := fill_L (N := 100) (by omega) (v := 0) (by omega) 100 256 0 (gX4_sizes T) (by omega) (by omega) (by omega)
  refine ⟨sX4_cost (sX4_buildings (sX4_most (sX4_number (sX4_b (sX4_a (sX4_root (sX4_sizes T g) (ii (-1))) (ii a)) (ii b)) (ii 0)) (ii 0)) (ii 0)) (ii 0), ?_, ?_, ⟨rfl, rfl, rfl, rfl, rfl⟩⟩
  · unfold fX4_begin fJ7_fill_53178
    simp only [cv_lt_eq, ii_l0, ii_l1, ii_l2, ii_l40, ii_l100, ii_neg]
    rw [show Int32.ofNat 100 = ii 100 from rfl]
    rw [show cv_bd (fJ7_fill_53178_L5 100 (ii 0) (ii 100) 256 (ii 0) (gX4_sizes T)) (fun j6 => some j6) = some g from cv_bd_eq e1 _]
    rfl
  · refine ⟨trivial, trivial, by rw [sz_lf]; omega, rfl, trivial, fun k k0 k1 => ?_, rfl⟩
    rw [at_lf, sz_lf]
    show rd g k = 0
    rw [e2 k k0, if_pos ⟨k0, by omega⟩]
theorem rd_cpy (f g : Nat → Int32) (n : Nat) {j : Int} (h1 : 0 ≤ j) (h2 : j < n) : rd (va_cpy f g 0 0 n) j = rd f j := by
  unfold rd
  rw [pk_cpy_in (by omega) (by omega)]
  congr 2
  omega
theorem copy_eq (T : SX4) {O : SX4} {t : Tr} (h : ct O t) {a b m d c : Int} (hn : cn O a b m d c) : ∃ T', fX4_copy T O = some T' ∧ ct T' t ∧ cn T' a b m d c := by
  obtain ⟨w, hb, hz, hrt, hp, hs, hnum⟩ := h
  have e0 : ((0 : Int32)).toNatClampNeg = 0 := by decide
  have e100 : ((100 : Int32)).toNatClampNeg = 100 := by decide
  refine ⟨_, rfl, ⟨w, hb, hz, hrt, ?_, fun k k0 k1 => ?_, hnum⟩, hn⟩
  · refine rp_frame t w (fun k hk => ?_) hp
    have := bst_mem t w _ _ hb k hk
    show rd (va_cpy (gX4_lefts O) (gX4_lefts T) ((0 : Int32)).toNatClampNeg ((0 : Int32)).toNatClampNeg ((100 : Int32)).toNatClampNeg) k = _ ∧ rd (va_cpy (gX4_rights O) (gX4_rights T) ((0 : Int32)).toNatClampNeg ((0 : Int32)).toNatClampNeg ((100 : Int32)).toNatClampNeg) k = _
    rw [e0, e100, rd_cpy _ _ _ (by omega) (by omega), rd_cpy _ _ _ (by omega) (by omega)]
    exact ⟨rfl, rfl⟩
  · show rd (va_cpy (gX4_sizes O) (gX4_sizes T) ((0 : Int32)).toNatClampNeg ((0 : Int32)).toNatClampNeg ((100 : Int32)).toNatClampNeg) k = _
    rw [e0, e100, rd_cpy _ _ _ k0 (by omega)]
    exact hs k k0 k1
