/-! the class's tree: a part is built anew, as a whole -/
/-- the numbers of a tree of the class -/
def cn (T : SX4) (a b m d c : Int) : Prop := gX4_a T = ii a ∧ gX4_b T = ii b ∧ gX4_most T = ii m ∧ gX4_buildings T = ii d ∧ gX4_cost T = ii c
theorem hng_sizes (T : SX4) (p k v : Int) : gX4_sizes (hng T p k v) = gX4_sizes T := by unfold hng; split <;> first | rfl | (split <;> rfl)
theorem hng_number (T : SX4) (p k v : Int) : gX4_number (hng T p k v) = gX4_number T := by unfold hng; split <;> first | rfl | (split <;> rfl)
theorem hng_way (T : SX4) (p k v : Int) : gX4_way (hng T p k v) = gX4_way T := by unfold hng; split <;> first | rfl | (split <;> rfl)
theorem hng_cn {T : SX4} {a b m d c : Int} (p k v : Int) (h : cn T a b m d c) : cn (hng T p k v) a b m d c := by unfold hng; split <;> first | exact h | (split <;> exact h)
theorem hng_root (T : SX4) (p k v : Int) : gX4_root (hng T p k v) = if p = -1 then ii v else gX4_root T := by
  unfold hng
  by_cases h : p = -1
  · rw [if_pos h, if_pos h]; rfl
  · rw [if_neg h, if_neg h]; split <;> rfl
theorem hng_lefts (T : SX4) {p v : Int} (k : Int) (h1 : -1 ≤ p) (h2 : p < 100) (h3 : -1 ≤ v) (h4 : v < 100) {j : Int} (h5 : 0 ≤ j) : rd (gX4_lefts (hng T p k v)) j = if j = p ∧ k < j then v else rd (gX4_lefts T) j := by
  unfold hng
  by_cases h : p = -1
  · rw [if_pos h, if_neg (by omega)]; rfl
  · rw [if_neg h]
    by_cases g : k < p
    · rw [if_pos g]
      show rd (upd (gX4_lefts T) (ii p).toNatClampNeg (ii v)) j = _
      rw [rd_upd _ (by omega) (by omega) (by omega) (by omega) h5]
      by_cases c : j = p
      · rw [if_pos c, if_pos ⟨c, by omega⟩]
      · rw [if_neg c, if_neg (fun z => c z.1)]
    · rw [if_neg g, if_neg (by omega)]; rfl
theorem hng_rights (T : SX4) {p v : Int} (k : Int) (h1 : -1 ≤ p) (h2 : p < 100) (h3 : -1 ≤ v) (h4 : v < 100) {j : Int} (h5 : 0 ≤ j) (hk : k ≠ p) : rd (gX4_rights (hng T p k v)) j = if j = p ∧ j < k then v else rd (gX4_rights T) j := by
  unfold hng
  by_cases h : p = -1
  · rw [if_pos h, if_neg (by omega)]; rfl
  · rw [if_neg h]
    by_cases g : k < p
    · rw [if_pos g, if_neg (by omega)]; rfl
    · rw [if_neg g]
      show rd (upd (gX4_rights T) (ii p).toNatClampNeg (ii v)) j = _
      rw [rd_upd _ (by omega) (by omega) (by omega) (by omega) h5]
      by_cases c : j = p
      · rw [if_pos c, if_pos ⟨c, by omega⟩]
      · rw [if_neg c, if_neg (fun z => c z.1)]
theorem last_at (xs : List Int) (x : Int) (h : 0 < xs.length) : (xs ++ [x]).getD (xs.length - 1) 0 = xs.getLastD (-1) := by
  rw [List.getD_eq_getElem?_getD, List.getElem?_append_left (by omega), ← List.getLast?_eq_getElem?]
  cases xs with
  | nil => simp at h
  | cons a b =>
    rw [List.getLastD_cons, List.getLast?_cons, Option.getD_some]
    cases b with
    | nil => rfl
    | cons c d => rw [List.getLastD_cons]; simp [List.getLast?_cons, List.getLastD_eq_getLast?]
theorem rt_lt {t : Tr} (w : tr_wf t) {lo hi : Int} (hb : bst lo hi t) (h1 : -1 ≤ lo) (h2 : -1 < hi) : -1 ≤ rt t ∧ rt t < hi := by
  rcases tr_cases w with rfl | ⟨y, l, r, rfl, -, -⟩
  · rw [rt_lf]; omega
  · obtain ⟨a1, a2, -⟩ := bst_nd.mp hb
    rw [rt_nd]; omega
theorem build_eq {T : SX4} {t : Tr} (h : ct T t) {a b m d c : Int} (hn : cn T a b m d c) {x : Int} (hx : x ∈ ks t) {xs : List Int} (he : wy x t = xs ++ [x]) (hw : ∀ j : Nat, j < xs.length + 1 → rd (gX4_way T) j = (xs ++ [x]).getD j 0) :
    ∃ T', fX4_build T (ii xs.length) = some (ii (sz (at_ x t)), T') ∧ ct T' (gr x (fk (at_ x t)) t) ∧ cn T' a b m (d + 1) (c + sz (at_ x t)) := by
  have hg := gather_eq h hx he hw
  obtain ⟨w, hb, hz, hrt, hp, hs, hnum⟩ := h
  have hl := wy_len t w x
  rw [he, List.length_append, List.length_singleton] at hl
  have x0 := bst_mem t w _ _ hb x hx
  have wa := at_wf x t w
  have ha := at_le x t w
  have ha0 := (at_pos (k := x) w hb).mpr hx
  obtain ⟨u, hu⟩ : ∃ u, u = fk (at_ x t) := ⟨_, rfl⟩
  obtain ⟨c1, c2, c3, c4, c5, c6⟩ := at_iv x t w (-1) 100 hb hx
  have bu : bst (il x (-1) t) (ih_ x 100 t) u := by rw [hu]; exact fk_bst wa c1
  have wu : tr_wf u := by rw [hu]; exact fk_wf _
  have su : sz u = sz (at_ x t) := by rw [hu]; exact fk_sz wa (by omega)
  have ku : ∀ j, j ∈ ks u ↔ j ∈ ks (at_ x t) := fun j => by rw [hu]; exact fk_ks wa (by omega) j
  have ru := rt_lt wu bu c2 (by omega)
  -- the row
  obtain ⟨T1, hT1⟩ : ∃ T1, T1 = sX4_row T (wrt (gX4_row T) 0 (ks (at_ x t))) := ⟨_, rfl⟩
  have kin : ∀ j ∈ ks (at_ x t), 0 ≤ j ∧ j < 100 := fun j hj => by
    have := bst_mem _ wa _ _ c1 j hj
    omega
  obtain ⟨l, r, s, ef, pf, zf, ff⟩ := flat_L (row := kr (at_ x t)) 7 0 (sz (at_ x t) - 1) 0 T1 (by rw [p7]; omega) (by omega) (by omega) (by omega) (by omega) (by omega) (fun i g1 g2 => by
    rw [hT1]
    show rd (wrt (gX4_row T) 0 (ks (at_ x t))) i = _
    have hlen := ks_len wa
    rw [wrt_rd _ _ _ _ (by omega) (by omega) (fun y hy => by have := kin y hy; omega) g1, if_pos (by omega), show i - 0 = i by omega]
    rfl) (fun i g1 g2 => kin _ (kr_in wa g1 (by omega))) (fun i j g1 g2 g3 => kr_lt wa c1 g1 g2 (by omega))
  rw [show flt (kr (at_ x t)) 7 0 (sz (at_ x t) - 1) = u from hu.symm] at ef pf zf ff
  -- the one above
  obtain ⟨p, hpa⟩ : ∃ p, p = pa x (-1) t := ⟨_, rfl⟩
  obtain ⟨xs', e1, e2⟩ := wy_there x t w _ _ (-1) hb hx
  have e3 : xs' = xs := by
    rw [he] at e1
    exact (List.append_cancel_right e1).symm
  rw [e3] at e2
  have hpin := pa_in x t w (-1) 100 (-1) hb hx
  have hpout := pa_out x t w (-1) 100 (-1) hb hx (fun z => by have := bst_mem t w _ _ hb _ z; omega)
  rw [← hpa] at e2 hpin hpout
  have hp1 : (x = rt t → p = -1) ∧ (x ≠ rt t → p ∈ ks t) := hpin
  have hpb : -1 ≤ p ∧ p < 100 := by
    by_cases z : x = rt t
    · have := hp1.1 z; omega
    · have := bst_mem t w _ _ hb _ (hp1.2 z); omega
  have hpx : x ≠ p := fun z => hpout (by rw [← z]; exact at_self w hb hx)
  have o1 : fX4_onWay T1 (ii (xs.length - 1)) = some (ii p) := by
    rw [fX4_onWay_eq T1 (by omega) (by omega)]
    by_cases z : xs.length = 0
    · have : xs = [] := List.length_eq_zero_iff.mp z
      rw [if_neg (by omega), e2, this]; rfl
    · rw [if_pos (by omega), e2, ← last_at xs x (by omega), ← hw (xs.length - 1) (by omega), hT1]
      show some (ii (rd (gX4_way T) _)) = _
      congr 3
      omega
  have o2 : fX4_onWay T1 (ii xs.length) = some (ii x) := by
    rw [fX4_onWay_eq T1 (by omega) (by omega), if_pos (by omega), hT1]
    show some (ii (rd (gX4_way T) _)) = _
    rw [hw xs.length (by omega)]
    simp
  obtain ⟨T2, hT2⟩ : ∃ T2, T2 = mk3 T1 l r s := ⟨_, rfl⟩
  obtain ⟨T3, hT3⟩ : ∃ T3, T3 = hng T2 p x (rt u) := ⟨_, rfl⟩
  have n2 : cn T2 a b m d c := by rw [hT2, hT1]; exact hn
  have n3 : cn T3 a b m d c := by rw [hT3]; exact hng_cn _ _ _ n2
  rw [← hu]
  refine ⟨sX4_cost (sX4_buildings T3 (ii (d + 1))) (ii (c + sz (at_ x t))), ?_, ?_, ?_⟩
  · unfold fX4_build
    rw [cv_bd_eq hg]
    simp only [ii_l0, ii_l1, ii_l2, ii_l40, ii_l100, ii_neg, ii_sub]
    rw [← hT1, cv_bd_eq o1, cv_bd_eq o2, cv_bd_eq ef]
    simp only []
    rw [← hT2, cv_bd_eq (hang_eq T2 hpb.1 hpb.2 (by omega) x0.2), ← hT3]
    simp only [cv_lt_eq, eX4_lefts_lefts, eX4_rights_lefts, eX4_sizes_lefts, eX4_way_lefts, eX4_row_lefts, eX4_root_lefts, eX4_a_lefts, eX4_b_lefts, eX4_number_lefts, eX4_most_lefts, eX4_buildings_lefts, eX4_cost_lefts, eX4_lefts_rights, eX4_rights_rights, eX4_sizes_rights, eX4_way_rights, eX4_row_rights, eX4_root_rights, eX4_a_rights, eX4_b_rights, eX4_number_rights, eX4_most_rights, eX4_buildings_rights, eX4_cost_rights, eX4_lefts_sizes, eX4_rights_sizes, eX4_sizes_sizes, eX4_way_sizes, eX4_row_sizes, eX4_root_sizes, eX4_a_sizes, eX4_b_sizes, eX4_number_sizes, eX4_most_sizes, eX4_buildings_sizes, eX4_cost_sizes, eX4_lefts_way, eX4_rights_way, eX4_sizes_way, eX4_way_way, eX4_row_way, eX4_root_way, eX4_a_way, eX4_b_way, eX4_number_way, eX4_most_way, eX4_buildings_way, eX4_cost_way, eX4_lefts_row, eX4_rights_row, eX4_sizes_row, eX4_way_row, eX4_row_row, eX4_root_row, eX4_a_row, eX4_b_row, eX4_number_row, eX4_most_row, eX4_buildings_row, eX4_cost_row, eX4_lefts_root, eX4_rights_root, eX4_sizes_root, eX4_way_root, eX4_row_root, eX4_root_root, eX4_a_root, eX4_b_root, eX4_number_root, eX4_most_root, eX4_buildings_root, eX4_cost_root, eX4_lefts_a, eX4_rights_a, eX4_sizes_a, eX4_way_a, eX4_row_a, eX4_root_a, eX4_a_a, eX4_b_a, eX4_number_a, eX4_most_a, eX4_buildings_a, eX4_cost_a, eX4_lefts_b, eX4_rights_b, eX4_sizes_b, eX4_way_b, eX4_row_b, eX4_root_b, eX4_a_b, eX4_b_b, eX4_number_b, eX4_most_b, eX4_buildings_b, eX4_cost_b, eX4_lefts_number, eX4_rights_number, eX4_sizes_number, eX4_way_number, eX4_row_number, eX4_root_number, eX4_a_number, eX4_b_number, eX4_number_number, eX4_most_number, eX4_buildings_number, eX4_cost_number, eX4_lefts_most, eX4_rights_most, eX4_sizes_most, eX4_way_most, eX4_row_most, eX4_root_most, eX4_a_most, eX4_b_most, eX4_number_most, eX4_most_most, eX4_buildings_most, eX4_cost_most, eX4_lefts_buildings, eX4_rights_buildings, eX4_sizes_buildings, eX4_way_buildings, eX4_row_buildings, eX4_root_buildings, eX4_a_buildings, eX4_b_buildings, eX4_number_buildings, eX4_most_buildings, eX4_buildings_buildings, eX4_cost_buildings, eX4_lefts_cost, eX4_rights_cost, eX4_sizes_cost, eX4_way_cost, eX4_row_cost, eX4_root_cost, eX4_a_cost, eX4_b_cost, eX4_number_cost, eX4_most_cost, eX4_buildings_cost, eX4_cost_cost, n3.2.2.2.1, n3.2.2.2.2, ii_add]
  · have t3l : ∀ j, 0 ≤ j → rd (gX4_lefts T3) j = if j = p ∧ x < j then rt u else rd l j := fun j hj => by
      rw [hT3, hng_lefts T2 x hpb.1 hpb.2 ru.1 (by omega) hj, hT2]; rfl
    have t3r : ∀ j, 0 ≤ j → rd (gX4_rights T3) j = if j = p ∧ j < x then rt u else rd r j := fun j hj => by
      rw [hT3, hng_rights T2 x hpb.1 hpb.2 ru.1 (by omega) hj hpx, hT2]; rfl
    have g1 : ∀ j, j ∈ ks t → 0 ≤ j ∧ j < 100 := fun j hj => by have := bst_mem t w _ _ hb j hj; omega
    have hg0 : bst (-1) 100 (gr x u t) := gr_bst x t w _ _ hb hx (fun a b q => by rw [hu]; exact fk_bst wa q)
    refine ⟨gr_wf x wu t w, hg0, by rw [gr_sz x u t w _ _ hb hx, su]; omega, ?_, ?_, ?_, ?_⟩
    · show gX4_root T3 = _
      have hne : t ≠ lf := fun z => by rw [z, ks_lf] at hx; cases hx
      rw [hT3, hng_root, gr_rt x u w hne]
      by_cases z : x = rt t
      · rw [if_pos (hp1.1 z), if_pos z]
      · have := g1 _ (hp1.2 z)
        rw [if_neg (by omega), if_neg z, hT2, hT1]
        exact hrt
    · show rp (rd (gX4_lefts T3)) (rd (gX4_rights T3)) (gr x u t)
      refine gr_rp (L := rd (gX4_lefts T)) (R := rd (gX4_rights T)) x ?_ t w _ _ (-1) hb hx hp (fun j hj hn' => ?_)
      · refine rp_frame u wu (fun k hk => ?_) pf
        have hk' := (ku k).mp hk
        have := kin k hk'
        have hkp : k ≠ p := fun z => hpout (by rw [← z]; exact hk')
        rw [t3l k this.1, t3r k this.1, if_neg (fun z => hkp z.1), if_neg (fun z => hkp z.1)]
        exact ⟨rfl, rfl⟩
      · have := g1 j hj
        have F := ff j this.1 (fun z => hn' ((ku j).mp z))
        rw [t3l j this.1, t3r j this.1, F.1, F.2.1, ← hpa, hT1]
        exact ⟨rfl, rfl⟩
    · intro k k0 k1
      show rd (gX4_sizes T3) k = _
      rw [hT3, hng_sizes, hT2]
      show rd s k = _
      rw [gr_at x k wu t w _ _ hb hx (fun i hi => (ku i).mp hi)]
      by_cases z : k ∈ ks (at_ x t)
      · rw [if_pos z]
        exact zf k ((ku k).mpr z)
      · rw [if_neg z, (ff k k0 (fun q => z ((ku k).mp q))).2.2, hT1]
        show rd (gX4_sizes T) k = _
        rw [hs k k0 k1, su, Int.sub_self, ite_self]
        omega
    · show gX4_number T3 = _
      rw [hT3, hng_number, hT2, hT1, gr_sz x u t w _ _ hb hx, su]
      show gX4_number T = _
      rw [hnum]
      congr 1
      omega
  · exact ⟨n3.1, n3.2.1, n3.2.2.1, rfl, rfl⟩
