/-! both: a key is put, a key is taken, all is built anew -/
theorem ad_wf {a b : Int} {v : Tr} (w : tr_wf v) (k : Int) : tr_wf (adT a b v k) := by
  unfold adT
  split
  · exact ins_wf k v w
  · exact gr_wf _ (fk_wf _) _ (ins_wf k v w)
theorem hx_in {a b : Int} {v : Tr} (w : tr_wf v) {k : Int} (h : ¬ hp_ a b v k = -1) : hx_ a b v k ∈ wy k v := by
  unfold hx_
  rcases hp_in a b v k with z | z
  · exact absurd z h
  · exact getD_mem (by omega)
theorem ad_ks {a b : Int} {v : Tr} (w : tr_wf v) (hb : bst (-1) 100 v) {k : Int} (k0 : 0 ≤ k) (k1 : k < 100) (hk : k ∉ ks v) (hz : sz v ≤ 39) (j : Int) : j ∈ ks (adT a b v k) ↔ j = k ∨ j ∈ ks v := by
  unfold adT
  by_cases z : hp_ a b v k = -1
  · rw [if_pos z]; exact ins_ks k j v w
  · rw [if_neg z]
    have hx := wy_sub v w k _ (hx_in w z)
    obtain ⟨x, ex⟩ : ∃ x, x = hx_ a b v k := ⟨_, rfl⟩
    rw [← ex] at hx ⊢
    have w' := ins_wf k v w
    have hb' := ins_bst k v w _ _ hb (by omega) k1 hk
    have hx' : x ∈ ks (ins k v) := (ins_ks k x v w).mpr (Or.inr hx)
    have sz' := ins_sz k v w
    rw [gr_ks x j _ _ w' _ _ hb' hx', fk_ks (at_wf x _ w') (by have := at_le x _ w'; omega), ← ins_ks k j v w]
    refine ⟨fun y => ?_, fun y => ?_⟩
    · rcases y with y | y
      · exact at_sub x j _ w' y
      · exact y.1
    · by_cases q : j ∈ ks (at_ x (ins k v))
      · exact Or.inl q
      · exact Or.inr ⟨y, q⟩
theorem ad_sz {a b : Int} {v : Tr} (w : tr_wf v) (hb : bst (-1) 100 v) {k : Int} (k0 : 0 ≤ k) (k1 : k < 100) (hk : k ∉ ks v) (hz : sz v ≤ 39) : sz (adT a b v k) = sz v + 1 := by
  unfold adT
  by_cases z : hp_ a b v k = -1
  · rw [if_pos z]; exact ins_sz k v w
  · rw [if_neg z]
    have hx := wy_sub v w k _ (hx_in w z)
    obtain ⟨x, ex⟩ : ∃ x, x = hx_ a b v k := ⟨_, rfl⟩
    rw [← ex] at hx ⊢
    have w' := ins_wf k v w
    have hb' := ins_bst k v w _ _ hb (by omega) k1 hk
    have hx' : x ∈ ks (ins k v) := (ins_ks k x v w).mpr (Or.inr hx)
    have sz' := ins_sz k v w
    rw [gr_sz x _ _ w' _ _ hb' hx', fk_sz (at_wf x _ w') (by have := at_le x _ w'; omega)]
    omega
theorem dr_ks {a b m : Int} {v : Tr} (w : tr_wf v) (hb : bst (-1) 100 v) {k : Int} (hk : k ∈ ks v) (hz : sz v ≤ 40) (j : Int) : j ∈ ks (drT a b m v k) ↔ j ∈ ks v ∧ j ≠ k := by
  unfold drT
  split
  · rw [fk_ks (dl_wf w hb hk) (by rw [dl_sz w hb hk]; omega)]; exact dl_ks w hb hk j
  · exact dl_ks w hb hk j
theorem dr_sz {a b m : Int} {v : Tr} (w : tr_wf v) (hb : bst (-1) 100 v) {k : Int} (hk : k ∈ ks v) (hz : sz v ≤ 40) : sz (drT a b m v k) = sz v - 1 := by
  unfold drT
  split
  · rw [fk_sz (dl_wf w hb hk) (by rw [dl_sz w hb hk]; omega)]; exact dl_sz w hb hk
  · exact dl_sz w hb hk
theorem sm_put {v v' : Tr} {s : (Int → Bool) × Int} {k : Int} (h : sm v s) (hk : k ∉ ks v) (h1 : ∀ j, j ∈ ks v' ↔ j = k ∨ j ∈ ks v) (h2 : sz v' = sz v + 1) : sm v' (tg s k) := by
  have e : ¬ s.1 k = true := by rw [h.1 k]; simp [hk]
  unfold tg
  rw [if_neg e]
  refine ⟨fun j => ?_, by rw [h2, ← h.2]⟩
  show (if j = k then true else s.1 j) = _
  by_cases z : j = k
  · rw [if_pos z]; symm; exact decide_eq_true ((h1 j).mpr (Or.inl z))
  · rw [if_neg z, h.1 j]
    have : j ∈ ks v' ↔ j ∈ ks v := by rw [h1 j]; simp [z]
    simp only [this]
theorem sm_take {v v' : Tr} {s : (Int → Bool) × Int} {k : Int} (h : sm v s) (hk : k ∈ ks v) (h1 : ∀ j, j ∈ ks v' ↔ j ∈ ks v ∧ j ≠ k) (h2 : sz v' = sz v - 1) : sm v' (tg s k) := by
  have e : s.1 k = true := by rw [h.1 k]; simp [hk]
  unfold tg
  rw [if_pos e]
  refine ⟨fun j => ?_, by rw [h2, ← h.2]⟩
  show (if j = k then false else s.1 j) = _
  by_cases z : j = k
  · rw [if_pos z]; symm; exact decide_eq_false (fun y => ((h1 j).mp y).2 z)
  · rw [if_neg z, h.1 j]
    have : j ∈ ks v' ↔ j ∈ ks v := by rw [h1 j]; simp [z]
    simp only [this]
theorem rd_at {f : Nat → Int32} {i w : Int} (h0 : 0 ≤ i) (h1 : i < 1000) (w0 : -1000 ≤ w) (w1 : w < 1000) {j : Int} (j0 : 0 ≤ j) : rd (upd f (ii i).toNatClampNeg (ii w)) j = if j = i then w else rd f j := rd_upd f h0 (by omega) (by omega) (by omega) j0
theorem log_add {lg : SX0} {M : SX6} {xs : List Int} {v v' : Tr} {k e : Int} (h1 : gX0_length lg = ii xs.length) (h2 : gX6_logMany M = ii xs.length) (h3 : lgR (gX0_keys lg) (gX6_log M) xs) (h4 : xs.length < 60 → sm v (ts xs)) (k0 : 0 ≤ k) (k1 : k < 100) (he1 : k ∈ ks v → e = -1 - k) (he2 : k ∉ ks v → e = k ∧ sz v ≤ 39) (hs : sm v (ts xs) → sm v' (tg (ts xs) k)) :
    ∃ lg' G' L' xs', fX0_add lg (ii k) = some lg' ∧ fX6_write M (ii e) = some (sX6_logMany (sX6_log M G') L') ∧ gX0_length lg' = ii (xs' : List Int).length ∧ L' = ii xs'.length ∧ lgR (gX0_keys lg') G' xs' ∧ (xs'.length < 60 → sm v' (ts xs')) := by
  have l0 := h3.1
  have eb : -1000 ≤ e ∧ e < 1000 := by
    by_cases z : k ∈ ks v
    · have := he1 z; omega
    · have := (he2 z).1; omega
  unfold fX0_add fX6_write
  rw [h1, h2]
  simp only [ii_l0, ii_l1, ii_l2, ii_l40, ii_l100, ii_neg, ii_l3, ii_l4, ii_l5, ii_l6, ii_l7, ii_l8, ii_l10, ii_l31, ii_l44, ii_l48, ii_l52, ii_l54, ii_l57, ii_l59, ii_l60, ii_l61, ii_l99, ii_l101, ii_l102, ii_l103, ii_l104, ii_l108, ii_l110, ii_l115, ii_l126, ii_l999, ii_l100000, ii_l65536, cv_lt_eq]
  by_cases z : 60 ≤ (xs.length : Int)
  · rw [if_pos ((ii_le (a := 60) (by omega) (by omega) (by omega) (by omega)).mpr z), if_pos ((ii_le (a := 60) (by omega) (by omega) (by omega) (by omega)).mpr z)]
    exact ⟨lg, gX6_log M, gX6_logMany M, xs, rfl, rfl, h1, h2, h3, fun y => by omega⟩
  · have zn : ¬ ii 60 ≤ ii xs.length := fun y => z ((ii_le (a := 60) (by omega) (by omega) (by omega) (by omega)).mp y)
    have g := ii_in (k := (xs.length : Int)) (n := 60) (by omega) (by omega) (by omega)
    rw [if_neg zn, if_neg zn, cv_gd_pos g, cv_gd_pos g]
    have hsm := h4 (by omega)
    refine ⟨_, upd (gX6_log M) (ii xs.length).toNatClampNeg (ii e), ii (xs.length + 1), xs ++ [k], rfl, ?_, ?_, ?_, ⟨?_, fun i hi => ?_⟩, fun _ => ?_⟩
    · rw [show gX6_logMany (sX6_log M (upd (gX6_log M) (ii xs.length).toNatClampNeg (ii e))) = ii xs.length from h2, ii_add]
    · show gX0_length lg + ii 1 = _
      rw [h1, ii_add, List.length_append, List.length_singleton]
      congr 1
    · rw [List.length_append, List.length_singleton]
      congr 1
    · rw [List.length_append, List.length_singleton]; omega
    · rw [List.length_append, List.length_singleton] at hi
      show _ ∧ rd (upd (gX0_keys lg) (ii xs.length).toNatClampNeg (ii k)) i = _ ∧ (_ → rd (upd (gX6_log M) (ii xs.length).toNatClampNeg (ii e)) i = _) ∧ (_ → rd (upd (gX6_log M) (ii xs.length).toNatClampNeg (ii e)) i = _ ∧ _)
      rw [rd_at (by omega) (by omega) (by omega) (by omega) (by omega), rd_at (by omega) (by omega) eb.1 eb.2 (by omega)]
      by_cases y : i = xs.length
      · have e1 : (xs ++ [k]).getD i 0 = k := by rw [y]; simp
        have e2 : (xs ++ [k]).take i = xs := by rw [y]; simp
        rw [e1, e2, if_pos (by omega), if_pos (by omega)]
        refine ⟨⟨k0, k1⟩, rfl, fun t => he1 ?_, fun t => ?_⟩
        · rw [hsm.1 k] at t; exact of_decide_eq_true t
        · rw [hsm.1 k] at t
          have q := he2 (fun y => t (decide_eq_true y))
          exact ⟨q.1, by rw [hsm.2]; exact q.2⟩
      · have e1 : (xs ++ [k]).getD i 0 = xs.getD i 0 := by rw [List.getD_eq_getElem?_getD, List.getElem?_append_left (by omega), ← List.getD_eq_getElem?_getD]
        have e2 : (xs ++ [k]).take i = xs.take i := by rw [List.take_append_of_le_length (by omega)]
        rw [e1, e2, if_neg (by omega), if_neg (by omega)]
        exact h3.2 i (by omega)
    · rw [ts_app]; exact hs hsm
theorem wlen {v : Tr} (w : tr_wf v) (hz : sz v ≤ 40) (k : Int) : ((wy k v).length : Int) ≤ 40 := by
  have := wy_len v w k
  omega
theorem adN_in {a b : Int} {v : Tr} (w : tr_wf v) (hz : sz v ≤ 39) (k : Int) : 0 ≤ adN a b v k ∧ adN a b v k ≤ 40 := by
  unfold adN
  split
  · omega
  · have := at_le (hx_ a b v k) v w
    have := sz_nonneg _ (at_wf (hx_ a b v k) v w)
    omega
/-- fees and buildings: both the same -/
theorem mny {x y f w N : Int} {n : Int} (hn : 0 ≤ n ∧ n ≤ 10000) (h1 : -(500 * n) ≤ y) (h2 : y ≤ x) (h3 : x ≤ 500 * n) (hf : 0 ≤ f ∧ f ≤ 9) (hw : 0 ≤ w ∧ w ≤ 41) (hN : 0 ≤ N ∧ N ≤ 40) :
    pyC (ii x) (ii f * ii w) = ii (x + f * w) ∧ pyL (ii x) (ii y) (ii f * ii w) = ii y ∧ (ii x + ii f * ii w - ii N = ii (x + f * w - N)) ∧ cv_min (ii y) (ii (x + f * w - N)) = ii (min y (x + f * w - N)) ∧ pyC (ii (x + f * w)) (ii (0 - N)) = ii (x + f * w - N) ∧ pyL (ii (x + f * w)) (ii y) (ii (0 - N)) = ii (min y (x + f * w - N)) ∧ -(500 * (n + 1)) ≤ min y (x + f * w - N) ∧ min y (x + f * w - N) ≤ x + f * w - N ∧ x + f * w - N ≤ 500 * (n + 1) ∧ (N = 0 → min y (x + f * w - N) = y) := by
  have p1 : f * w ≤ 9 * 41 := Int.mul_le_mul hf.2 hw.2 hw.1 (by omega)
  have p2 : 0 ≤ f * w := Int.mul_nonneg hf.1 hw.1
  obtain ⟨z, hz⟩ : ∃ z, z = f * w := ⟨_, rfl⟩
  rw [← hz] at p1 p2 ⊢
  unfold pyC pyL
  rw [ii_mul, ← hz, ii_add, ii_add, show x + z + (0 - N) = x + z - N by omega, ii_sub, cv_min_ii (by omega) (by omega) (by omega) (by omega), if_pos ((ii_le (by omega) (by omega) (by omega) (by omega)).mpr (by omega))]
  refine ⟨rfl, rfl, rfl, rfl, rfl, ?_, by omega, by omega, by omega, by omega⟩
  by_cases q : y ≤ x + z - N
  · rw [if_pos ((ii_le (by omega) (by omega) (by omega) (by omega)).mpr q)]; congr 1; omega
  · rw [if_neg (fun t => q ((ii_le (by omega) (by omega) (by omega) (by omega)).mp t))]; congr 1; omega
theorem oq_log (M : SX6) (G : Nat → Int32) (L : Int32) : oq (sX6_logMany (sX6_log M G) L) = oq M := rfl
/-- a new key is PUT -/
theorem place_new {n : Int} (hn : 0 ≤ n ∧ n ≤ 10000) {s : SX3} {M : SX6} {v : Tr} {a b m d c f x y : Int} {xs : List Int} {q : Nat} (h : sq n true s M v a b m d c f x y xs q) {k kd vl : Int} (k0 : 0 ≤ k) (k1 : k < 100) (hk : k ∉ ks v) (hz : sz v ≤ 39) (kd0 : 0 ≤ kd ∧ kd ≤ 4) (vl0 : 0 ≤ vl ∧ vl ≤ 999) :
    ∃ s' M' r, fX3_place s (ii kd) (ii k) (ii vl) = some (r, s') ∧ fX6_putNew M (ii kd) (ii k) (ii vl) = some M' ∧ gX6_builtNow M' = r ∧ oq M' = oq M ∧ ∃ x' y' xs', sq (n + 1) true s' M' (adT a b v k) a b (max m (sz v + 1)) (d + adD a b v k) (c + adN a b v k) f x' y' xs' q := by
  obtain ⟨⟨t1, t2, t3, t4, t5, t6⟩, h2, h3, h4, ⟨e1, e2, e3, e4, e5, e6, e7⟩, ⟨l1, l2, l3, l4⟩, hq⟩ := h
  obtain ⟨hr, hf1, hf2⟩ := h2.1 rfl
  obtain ⟨w, hb, -⟩ := id t1
  have s0 := sz_nonneg v w
  have hl := wlen w (by omega) k
  have hN := adN_in (a := a) (b := b) w hz k
  have g := ii_in (k := k) (n := 100) k0 k1 (by omega)
  -- the reference
  obtain ⟨M1, hM1⟩ : ∃ M1, M1 = sX6_values (sX6_kinds M (upd (gX6_kinds M) (ii k).toNatClampNeg (ii kd))) (upd (gX6_values M) (ii k).toNatClampNeg (ii vl)) := ⟨_, rfl⟩
  have rc1 : rc M1 0 v := by rw [hM1]; exact t2
  have nm1 : nm M1 0 m d c := by rw [hM1]; exact t4
  have ab1 : ab M1 0 a b := by rw [hM1]; exact ab0 t5
  obtain ⟨M2, b1, b2, b3, b4, b5, b6⟩ := enter6 rc1 (Or.inl rfl) ab1 hr k0 k1 hk hz nm1 t6
  have hsm : sm v (ts xs) → sm (adT a b v k) (tg (ts xs) k) := fun z => sm_put z hk (ad_ks w hb k0 k1 hk hz) (ad_sz w hb k0 k1 hk hz)
  have cr1 : gX6_credit M1 = ii x ∧ gX6_lowest M1 = ii y ∧ gX6_fee M1 = ii f := by rw [hM1]; exact ⟨e2, e4, h3.2⟩
  have o1 : oq M1 = oq M := by rw [hM1]; rfl
  obtain ⟨lg', G', L', xs', g1, g2, g3, g4, g5, g6⟩ := log_add (lg := gX3_log s) (M := M2) (e := k) l1 (by rw [ot_logMany b5.1, hM1]; exact l2) (by rw [ot_log b5.1, hM1]; exact l3) l4 k0 k1 (fun z => absurd z hk) (fun _ => ⟨rfl, hz⟩) hsm
  -- the class
  obtain ⟨s4, hs4⟩ : ∃ s4, s4 = sX3_values (sX3_kinds s (upd (gX3_kinds s) (ii k).toNatClampNeg (ii kd))) (upd (gX3_values s) (ii k).toNatClampNeg (ii vl)) := ⟨_, rfl⟩
  have ct4 : ct (gX3_tree s4) v := by rw [hs4]; exact t1
  have hw := ct_walk ct4 (k := k) (by omega) (by omega)
  obtain ⟨T1, hT1⟩ : ∃ T1, T1 = sX4_way (gX3_tree s4) (wrt (gX4_way (gX3_tree s4)) 0 (wy k v)) := ⟨_, rfl⟩
  rw [← hT1] at hw
  have ctT : ct T1 v := by rw [hT1]; exact ct4
  have cnT : cn T1 a b m d c := by rw [hT1, hs4]; exact t3
  obtain ⟨T2, a1, a2, a3⟩ := add_eq ctT hr cnT t6 k0 k1 hk hz
  obtain ⟨m1, m2, m3, m4, m5, m6, m7, m8, m9, m10⟩ := mny (x := x) (y := y) (f := f) (w := (wy k v).length + 1) (N := adN a b v k) hn e5 e6 e7 (by omega) (by omega) (by omega)
  obtain ⟨s5, hs5⟩ : ∃ s5, s5 = sX3_lowest (sX3_credit (sX3_tree (sX3_credit (sX3_tree (sX3_log s4 lg') T1) (ii x + ii f * ii ((wy k v).length + 1))) T2) (ii (x + f * ((wy k v).length + 1) - adN a b v k))) (ii (min y (x + f * ((wy k v).length + 1) - adN a b v k))) := ⟨_, rfl⟩
  refine ⟨s5, sX6_logMany (sX6_log M2 G') L', ii (adN a b v k), ?_, ?_, b4, ?_, x + f * ((wy k v).length + 1) - adN a b v k, min y (x + f * ((wy k v).length + 1) - adN a b v k), xs', ⟨?_, b2, ?_, b3, ?_, ?_⟩, ⟨fun _ => ⟨hr, hf1, hf2⟩, fun z => by cases z⟩, ⟨?_, ?_⟩, ⟨?_, ?_⟩, ⟨?_, ?_, ?_, ?_, m7, m8, m9⟩, ⟨?_, g4, ?_, g6⟩, ?_⟩
  · unfold fX3_place
    simp only [ii_l0, ii_l1, ii_l2, ii_l40, ii_l100, ii_neg, cv_lt_eq]
    rw [cv_gd_pos g, cv_gd_pos g]
    rw [show sX3_values (sX3_kinds s (upd (gX3_kinds s) (ii k).toNatClampNeg (ii kd))) (upd (gX3_values (sX3_kinds s (upd (gX3_kinds s) (ii k).toNatClampNeg (ii kd)))) (ii k).toNatClampNeg (ii vl)) = s4 by rw [hs4]; rfl, cv_bd_eq (has_no ct4 (by omega) (by omega) hk), if_pos rfl]
    have gl : gX3_log s4 = gX3_log s := by rw [hs4]; rfl
    rw [gl, cv_bd_eq g1, show gX3_tree (sX3_log s4 lg') = gX3_tree s4 from rfl, cv_bd_eq hw]
    have c4 : gX3_credit (sX3_log s4 lg') = ii x := by rw [hs4]; exact e1
    have f4 : gX3_fee (sX3_log s4 lg') = ii f := by rw [hs4]; exact h3.1
    simp only [c4, f4, ii_add ((wy k v).length : Int) 1]
    rw [show gX3_tree (sX3_credit (sX3_tree (sX3_log s4 lg') T1) (ii x + ii f * ii ((wy k v).length + 1))) = T1 from rfl, cv_bd_eq a1]
    simp only []
    unfold fX3_settle
    simp only [cv_lt_eq]
    rw [show gX3_credit (sX3_tree (sX3_credit (sX3_tree (sX3_log s4 lg') T1) (ii x + ii f * ii ((wy k v).length + 1))) T2) = ii x + ii f * ii ((wy k v).length + 1) from rfl, m3]
    have l4' : gX3_lowest (sX3_credit (sX3_tree (sX3_credit (sX3_tree (sX3_log s4 lg') T1) (ii x + ii f * ii ((wy k v).length + 1))) T2) (ii (x + f * ((wy k v).length + 1) - adN a b v k))) = ii y := by rw [hs4]; exact e3
    rw [l4', show gX3_credit (sX3_credit (sX3_tree (sX3_credit (sX3_tree (sX3_log s4 lg') T1) (ii x + ii f * ii ((wy k v).length + 1))) T2) (ii (x + f * ((wy k v).length + 1) - adN a b v k))) = ii (x + f * ((wy k v).length + 1) - adN a b v k) from rfl, m4, cv_bd_some, hs5]
  · unfold fX6_putNew
    simp only [ii_l0, ii_l1, ii_l2, ii_l40, ii_l100, ii_neg, cv_lt_eq]
    rw [cv_gd_pos g, cv_gd_pos g]
    refine (cv_bd_eq (a := M2) (by rw [hM1] at b1; exact b1) _).trans ?_
    exact cv_bd_eq g2 _
  · exact (ot_oq b5.1).trans o1
  · rw [hs5]; exact a2
  · rw [hs5]; exact a3
  · exact ⟨(ot_ratioA b5.1 : gX6_ratioA M2 = _).trans (by rw [hM1]; exact t5.1), (ot_ratioB b5.1 : gX6_ratioB M2 = _).trans (by rw [hM1]; exact t5.2)⟩
  · omega
  · rw [hs5, hs4]; exact h3.1
  · exact (ot_fee b5.1 : gX6_fee M2 = _).trans cr1.2.2
  · have : gX6_kinds (sX6_logMany (sX6_log M2 G') L') = upd (gX6_kinds M) (ii k).toNatClampNeg (ii kd) := (ot_kinds b5.1 : gX6_kinds M2 = _).trans (by rw [hM1]; rfl)
    rw [this, hs5, hs4]
    exact kv_upd h4.1 (by omega) k0 k1 kd0.1 kd0.2
  · have : gX6_values (sX6_logMany (sX6_log M2 G') L') = upd (gX6_values M) (ii k).toNatClampNeg (ii vl) := (ot_values b5.1 : gX6_values M2 = _).trans (by rw [hM1]; rfl)
    rw [this, hs5, hs4]
    exact kv_upd h4.2 (by omega) k0 k1 vl0.1 vl0.2
  · rw [hs5]; rfl
  · have q1 : gX6_credit M2 = _ := (b6 rfl).1
    show gX6_credit M2 = _
    rw [q1, cr1.1, cr1.2.2]
    unfold eC
    by_cases z : hp_ a b v k = -1
    · have : adN a b v k = 0 := by unfold adN; rw [if_pos z]
      rw [if_pos z, m1, this]; congr 1; omega
    · rw [if_neg z, m1, m5]
  · rw [hs5]; rfl
  · have q1 : gX6_lowest M2 = _ := (b6 rfl).2
    show gX6_lowest M2 = _
    rw [q1, cr1.1, cr1.2.1, cr1.2.2]
    unfold eL
    by_cases z : hp_ a b v k = -1
    · have : adN a b v k = 0 := by unfold adN; rw [if_pos z]
      rw [if_pos z, m2, m10 this]
    · rw [if_neg z, m1, m2, m6]
  · rw [hs5]; exact g3
  · rw [hs5]; exact g5
  · have e8 : gX6_seenMany (sX6_logMany (sX6_log M2 G') L') = gX6_seenMany M ∧ gX6_sights (sX6_logMany (sX6_log M2 G') L') = gX6_sights M := ⟨(ot_seenMany b5.1 : gX6_seenMany M2 = _).trans (by rw [hM1]; rfl), (ot_sights b5.1 : gX6_sights M2 = _).trans (by rw [hM1]; rfl)⟩
    rw [e8.1, e8.2, hs5, hs4]
    exact hq
