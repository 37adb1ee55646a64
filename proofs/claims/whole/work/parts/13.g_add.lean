/-! the class's tree: a new key -/
/-- the tree with a new key: the part that is too much on one side is flat then -/
def hx_ (a b : Int) (t : Tr) (k : Int) : Int := (wy k t).getD (hp_ a b t k).toNat 0
def adT (a b : Int) (t : Tr) (k : Int) : Tr := if hp_ a b t k = -1 then ins k t else gr (hx_ a b t k) (fk (at_ (hx_ a b t k) (ins k t))) (ins k t)
def adN (a b : Int) (t : Tr) (k : Int) : Int := if hp_ a b t k = -1 then 0 else sz (at_ (hx_ a b t k) t) + 1
def adD (a b : Int) (t : Tr) (k : Int) : Int := if hp_ a b t k = -1 then 0 else 1
theorem hp_in (a b : Int) (t : Tr) (k : Int) : hp_ a b t k = -1 ∨ (0 ≤ hp_ a b t k ∧ hp_ a b t k < (wy k t).length) := by
  unfold hp_
  by_cases g : ((wy k t).length : Int) ≤ lim a b (sz t + 1)
  · rw [if_pos g]; exact Or.inl rfl
  · rw [if_neg g]; exact tp_in _ _
theorem walk_way {xs : List Int} (hl : xs.length ≤ 40) (hx : ∀ x ∈ xs, 0 ≤ x ∧ x < 100) (f : Nat → Int32) {j : Nat} (hj : j < xs.length) : rd (wrt f 0 xs) j = xs.getD j 0 := by
  rw [wrt_rd xs f 0 j (by omega) (by omega) (fun x h => by have := hx x h; omega) (by omega), if_pos (by omega)]
  congr 1
theorem add_eq {T : SX4} {t : Tr} (h : ct T t) {a b m d c : Int} (hr : rat a b) (hn : cn T a b m d c) (hm : 0 ≤ m ∧ m ≤ 40) {k : Int} (k0 : 0 ≤ k) (k1 : k < 100) (hk : k ∉ ks t) (hz : sz t ≤ 39) :
    ∃ T', fX4_add T (ii k) = some (ii (adN a b t k), T') ∧ ct T' (adT a b t k) ∧ cn T' a b (max m (sz t + 1)) (d + adD a b t k) (c + adN a b t k) := by
  have hwalk := ct_walk h (k := k) (by omega) (by omega)
  have h' := h
  obtain ⟨w, hb, hz', hrt, hp, hs, hnum⟩ := h
  have s0 := sz_nonneg t w
  have hl := wy_len t w k
  obtain ⟨xs, hxs⟩ : ∃ xs, xs = wy k t := ⟨_, rfl⟩
  have xin : ∀ x ∈ xs, 0 ≤ x ∧ x < 100 := fun x hx => by
    have := bst_mem t w _ _ hb x (wy_sub t w k x (by rw [← hxs]; exact hx))
    omega
  rw [← hxs] at hl
  obtain ⟨T1, hT1⟩ : ∃ T1, T1 = sX4_way T (wrt (gX4_way T) 0 xs) := ⟨_, rfl⟩
  rw [← hxs, ← hT1] at hwalk
  have c1 : ct T1 t := by rw [hT1]; exact h'
  have n1 : cn T1 a b m d c := by rw [hT1]; exact hn
  have w1 : ∀ j : Nat, j < xs.length → rd (gX4_way T1) j = xs.getD j 0 := fun j hj => by
    rw [hT1]
    exact walk_way (by omega) xin _ hj
  have hheavy := heavy_eq hr c1 hz (k := k) n1.1 n1.2.1 (by rw [← hxs]; exact w1)
  rw [← hxs] at hheavy
  have hch := change_eq (d := 1) (xs := xs) (T := T1) (by omega) w1 xin
  obtain ⟨T2, hT2⟩ : ∃ T2, T2 = sX4_sizes T1 (bmp 1 (gX4_sizes T1) xs) := ⟨_, rfl⟩
  rw [← hT2] at hch
  obtain ⟨T3, hT3⟩ : ∃ T3, T3 = sX4_sizes (sX4_rights (sX4_lefts T2 (upd (gX4_lefts T2) (ii k).toNatClampNeg (ii (-1)))) (upd (gX4_rights T2) (ii k).toNatClampNeg (ii (-1)))) (upd (gX4_sizes T2) (ii k).toNatClampNeg (ii 1)) := ⟨_, rfl⟩
  have w3 : gX4_way T3 = gX4_way T1 := by rw [hT3, hT2]; rfl
  obtain ⟨p, hp_e⟩ : ∃ p, p = lw k t := ⟨_, rfl⟩
  have p1 : em t = true → p = -1 := fun e => by rw [hp_e, em_eq w e]; rfl
  have p2 : ¬ em t = true → p ∈ ks t := fun e => by rw [hp_e]; exact lw_ks w (em_ne w e)
  have pb : -1 ≤ p ∧ p < 100 := by
    by_cases e : em t = true
    · have := p1 e; omega
    · have := bst_mem t w _ _ hb _ (p2 e); omega
  have pk : k ≠ p := fun z => by
    by_cases e : em t = true
    · have := p1 e; omega
    · exact hk (by rw [z]; exact p2 e)
  have o1 : fX4_onWay T3 (ii (xs.length - 1)) = some (ii p) := by
    rw [fX4_onWay_eq T3 (by omega) (by omega), w3, hp_e]
    unfold lw
    rw [← hxs]
    by_cases z : xs.length = 0
    · rw [if_neg (by omega), List.length_eq_zero_iff.mp z]; rfl
    · rw [if_pos (by omega), ← last_gd xs (by omega), ← w1 (xs.length - 1) (by omega)]
      congr 3
      omega
  obtain ⟨T4, hT4⟩ : ∃ T4, T4 = hng T3 p k k := ⟨_, rfl⟩
  obtain ⟨T5, hT5⟩ : ∃ T5, T5 = sX4_most (sX4_number T4 (ii (sz t + 1))) (ii (max m (sz t + 1))) := ⟨_, rfl⟩
  have n4 : cn T4 a b m d c := by rw [hT4]; exact hng_cn _ _ _ (by rw [hT3, hT2]; exact n1)
  have n5 : cn T5 a b (max m (sz t + 1)) d c := by rw [hT5]; exact ⟨n4.1, n4.2.1, rfl, n4.2.2.2.1, n4.2.2.2.2⟩
  have num4 : gX4_number T4 = ii (sz t) := by rw [hT4, hng_number, hT3, hT2, hT1]; exact hnum
  have g1 : ∀ j, j ∈ ks t → 0 ≤ j ∧ j < 100 := fun j hj => by have := bst_mem t w _ _ hb j hj; omega
  have c5 : ct T5 (ins k t) := by
    have l4 : ∀ j, 0 ≤ j → rd (gX4_lefts T5) j = if j = p ∧ k < j then k else if j = k then -1 else rd (gX4_lefts T) j := fun j hj => by
      rw [hT5]
      show rd (gX4_lefts T4) j = _
      rw [hT4, hng_lefts T3 k pb.1 pb.2 (by omega) k1 hj, hT3]
      show (if _ then _ else rd (upd (gX4_lefts T2) (ii k).toNatClampNeg (ii (-1))) j) = _
      rw [rd_upd _ k0 (by omega) (by omega) (by omega) hj, hT2, hT1]
      rfl
    have r4 : ∀ j, 0 ≤ j → rd (gX4_rights T5) j = if j = p ∧ j < k then k else if j = k then -1 else rd (gX4_rights T) j := fun j hj => by
      rw [hT5]
      show rd (gX4_rights T4) j = _
      rw [hT4, hng_rights T3 k pb.1 pb.2 (by omega) k1 hj pk, hT3]
      show (if _ then _ else rd (upd (gX4_rights T2) (ii k).toNatClampNeg (ii (-1))) j) = _
      rw [rd_upd _ k0 (by omega) (by omega) (by omega) hj, hT2, hT1]
      rfl
    refine ⟨ins_wf k t w, ins_bst k t w _ _ hb (by omega) k1 hk, by rw [ins_sz k t w]; omega, ?_, ?_, ?_, ?_⟩
    · rw [hT5]
      show gX4_root T4 = _
      rw [hT4, hng_root, ins_rt k w]
      by_cases e : em t = true
      · rw [if_pos (p1 e), if_pos e]
      · have := g1 _ (p2 e)
        rw [if_neg (by omega), if_neg e, hT3, hT2, hT1]
        exact hrt
    · refine ins_rp (L := rd (gX4_lefts T)) (R := rd (gX4_rights T)) k t w _ _ hb hk hp ?_ ?_ (fun j hj => ?_)
      · rw [l4 k k0, if_neg (by omega), if_pos rfl]
      · rw [r4 k k0, if_neg (by omega), if_pos rfl]
      · have hj' := g1 j hj
        have : j ≠ k := fun z => hk (by rw [← z]; exact hj)
        rw [l4 j hj'.1, r4 j hj'.1, if_neg this, if_neg this, hp_e]
        exact ⟨rfl, rfl⟩
    · intro j j0 j1
      rw [ins_at k j t w _ _ hb hk, hT5]
      show rd (gX4_sizes T4) j = _
      rw [hT4, hng_sizes, hT3]
      show rd (upd (gX4_sizes T2) (ii k).toNatClampNeg (ii 1)) j = _
      rw [rd_upd _ k0 (by omega) (by omega) (by omega) j0]
      by_cases e : j = k
      · rw [if_pos e, if_pos e]
      · rw [if_neg e, if_neg e, hT2]
        show rd (bmp 1 (gX4_sizes T1) xs) j = _
        have hsz : ∀ y : Int, 0 ≤ y → y < 100 → rd (gX4_sizes T1) y = sz (at_ y t) := fun y a b => by rw [hT1]; exact hs y a b
        rw [bmp_rd 1 (by omega) xs _ (by rw [hxs]; exact wy_nodup t w _ _ k hb) (fun y hy => by
          have q := xin y hy
          have q1 := at_le y t w
          have q2 := sz_nonneg _ (at_wf y t w)
          rw [hsz y q.1 q.2]
          omega) j j0, hsz j j0 j1, hxs]
    · rw [ins_sz k t w, hT5]
      rfl
  have base : ∀ (res : Option (Int32 × SX4)), (if ii (hp_ a b t k) = ii (-1) then some (ii 0, T5) else cv_bd (fX4_build T5 (ii (hp_ a b t k))) fun r15 => some (r15.1, r15.2)) = res → fX4_add T (ii k) = res := by
    intro res hres
    unfold fX4_add
    rw [cv_bd_eq hwalk]
    simp only []
    rw [cv_bd_eq hheavy]
    simp only [ii_l0, ii_l1, ii_l2, ii_l40, ii_l100, ii_neg]
    rw [cv_bd_eq hch]
    have g := ii_in (n := 100) k0 k1 (by omega)
    rw [cv_gd_pos g, cv_lt_eq, cv_gd_pos g, cv_lt_eq, cv_gd_pos g, cv_lt_eq, ii_sub]
    rw [show sX4_sizes (sX4_rights (sX4_lefts T2 (upd (gX4_lefts T2) (ii k).toNatClampNeg (ii (-1)))) (upd (gX4_rights (sX4_lefts T2 (upd (gX4_lefts T2) (ii k).toNatClampNeg (ii (-1))))) (ii k).toNatClampNeg (ii (-1)))) (upd (gX4_sizes (sX4_rights (sX4_lefts T2 (upd (gX4_lefts T2) (ii k).toNatClampNeg (ii (-1)))) (upd (gX4_rights (sX4_lefts T2 (upd (gX4_lefts T2) (ii k).toNatClampNeg (ii (-1))))) (ii k).toNatClampNeg (ii (-1))))) (ii k).toNatClampNeg (ii 1)) = T3 by rw [hT3]; rfl]
    rw [cv_bd_eq o1, cv_bd_eq (hang_eq T3 pb.1 pb.2 (by omega) k1), ← hT4, cv_lt_eq, cv_lt_eq, num4, ii_add]
    rw [show gX4_most (sX4_number T4 (ii (sz t + 1))) = ii m from n4.2.2.1, show gX4_number (sX4_number T4 (ii (sz t + 1))) = ii (sz t + 1) from rfl, cv_max_ii (by omega) (by omega) (by omega) (by omega), ← hT5]
    exact hres
  unfold adN adT adD
  rcases hp_in a b t k with z | z
  · rw [if_pos z, if_pos z, if_pos z]
    refine ⟨T5, base _ (by rw [z, if_pos rfl]), c5, ?_⟩
    rw [Int.add_zero, Int.add_zero]
    exact n5
  · obtain ⟨q, hq⟩ : ∃ q : Nat, hp_ a b t k = q := ⟨(hp_ a b t k).toNat, by omega⟩
    have hq' : q < xs.length := by rw [hxs]; omega
    rw [if_neg (by omega), if_neg (by omega), if_neg (by omega)]
    obtain ⟨x, hx⟩ : ∃ x, x = hx_ a b t k := ⟨_, rfl⟩
    have hxq : x = xs.getD q 0 := by rw [hx, hxs]; unfold hx_; rw [hq]; rfl
    have xw : x ∈ wy k t := by rw [hxq, ← hxs]; exact getD_mem hq'
    have xk : x ∈ ks t := wy_sub t w k x xw
    have e1 : wy x (ins k t) = xs.take q ++ [x] := by
      rw [ins_wy2 k x t w _ _ hb xk, hxq, ← take_gd hq', hxs]
      exact wy_pre k t w _ _ hb q (by rw [← hxs]; exact hq')
    have lt : (xs.take q).length = q := by rw [List.length_take]; omega
    have hsx : sz (at_ x (ins k t)) = sz (at_ x t) + 1 := by
      rw [ins_at k x t w _ _ hb hk, if_neg (fun z => hk (by rw [← z]; exact xk)), if_pos xw]
    obtain ⟨T', b1, b2, b3⟩ := build_eq c5 n5 (x := x) (by rw [ins_ks k x t w]; exact Or.inr xk) e1 (fun j hj => by
      rw [lt] at hj
      have : gX4_way T5 = gX4_way T1 := by rw [hT5]; show gX4_way T4 = _; rw [hT4, hng_way, w3]
      rw [this, w1 j (by omega), hxq, ← take_gd hq', List.getD_eq_getElem?_getD, List.getD_eq_getElem?_getD, List.getElem?_take, if_pos (by omega)])
    rw [lt] at b1
    rw [← hx]
    refine ⟨T', base _ (by rw [hq, if_neg (fun z => by rw [ii_eq (by omega) (by omega) (by omega) (by omega)] at z; omega), cv_bd_eq b1, hsx]), b2, ?_⟩
    rw [← hsx]
    exact b3
