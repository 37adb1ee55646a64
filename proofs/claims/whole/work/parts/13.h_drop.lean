/-! the class's tree: a key less -/
theorem buildAll_eq {T : SX4} {t : Tr} (h : ct T t) {a b m d c : Int} (hn : cn T a b m d c) (hne : ¬ em t = true) : ∃ T', fX4_buildAll T = some (ii (sz t), T') ∧ ct T' (fk t) ∧ cn T' a b m (d + 1) (c + sz t) := by
  obtain ⟨w, hb, -, hrt, -⟩ := id h
  rcases tr_cases w with rfl | ⟨x, l, r, rfl, w1, w2⟩
  · exact absurd em_lf hne
  · obtain ⟨a1, a2, a3, a4⟩ := bst_nd.mp hb
    rw [rt_nd] at hrt
    obtain ⟨T1, hT1⟩ : ∃ T1, T1 = sX4_way T (upd (gX4_way T) (ii 0).toNatClampNeg (ii x)) := ⟨_, rfl⟩
    have c1 : ct T1 (nd x l r) := by rw [hT1]; exact h
    have n1 : cn T1 a b m d c := by rw [hT1]; exact hn
    have ea : at_ x (nd x l r) = nd x l r := by rw [at_nd, if_pos rfl]
    obtain ⟨T', e1, e2, e3⟩ := build_eq c1 n1 (x := x) (xs := []) (by rw [ks_nd]; simp) (by rw [wy_nd, if_pos rfl]; rfl) (fun j hj => by
      obtain rfl : j = 0 := by simp at hj; omega
      rw [hT1]
      show rd (upd (gX4_way T) (ii 0).toNatClampNeg (ii x)) 0 = _
      rw [rd_upd _ (by omega) (by omega) (by omega) (by omega) (by omega), if_pos rfl]
      rfl)
    rw [ea] at e1 e2 e3
    refine ⟨T', ?_, ?_, e3⟩
    · unfold fX4_buildAll
      rw [hrt]
      simp only [ii_l0, ii_l1, ii_l2, ii_l40, ii_l100, ii_neg]
      rw [if_neg (fun z => by rw [ii_eq (by omega) (by omega) (by omega) (by omega)] at z; omega), cv_gd_pos (ii_in (by omega) (by omega) (by omega)), cv_lt_eq, ← hT1]
      exact cv_bd_eq e1 _
    · rw [gr_nd, if_pos rfl] at e2
      exact e2
theorem lift_L {u1 : Int32} : ∀ t : Tr, tr_wf t → ∀ lo hi p : Int, bst lo hi t → -1 ≤ lo → hi ≤ 100 → ¬ em t = true → ∀ (T : SX4) (n : Nat) (i : Int), rp (rd (gX4_lefts T)) (rd (gX4_rights T)) t → (∀ x ∈ ks t, 0 < rd (gX4_sizes T) x) → 0 ≤ i → i + (sp t).length < 40 → (sp t).length < n →
    fX4_liftLeast_L12 u1 n (ii p) (ii (rt t)) (ii i) T = some (ii (ov p t), ii (mn t), sX4_sizes T (bmp (-1) (gX4_sizes T) (sp t))) := tr_ind (fun _ _ _ _ _ _ h => absurd em_lf h) (fun x l r w1 w2 h1 h2 lo hi p hb hlo hhi _ T n i hp hs hi0 hlen hn => by
  obtain ⟨a1, a2, a3, a4⟩ := bst_nd.mp hb
  obtain ⟨b1, b2, b3, b4⟩ := rp_nd.mp hp
  obtain ⟨n, rfl⟩ : ∃ m, n = m + 1 := ⟨n - 1, by omega⟩
  have g := ii_in (k := x) (n := 100) (by omega) (by omega) (by omega)
  have rl := rt_lt w1 a3 hlo (by omega)
  rw [rt_nd, ov_nd, mn_nd]
  rw [sp_nd] at hlen hn ⊢
  unfold fX4_liftLeast_L12
  simp (disch := omega) only [ii_l0, ii_l1, ii_l2, ii_l40, ii_l100, ii_neg, ii_le, cv_lt_eq]
  rw [if_neg (by split at hlen <;> simp at hlen <;> omega), cv_gd_pos g, qX4_lefts T (by omega) (by omega), b1]
  by_cases e : em l = true
  · rw [if_pos e, if_pos e, if_pos e, bmp_nil]
    rw [em_eq w1 e, rt_lf, cv_bd_eq (has_f T (by omega) (by omega) (by omega)), if_pos rfl]
    rfl
  · rw [if_neg e, List.length_cons] at hlen hn
    rw [if_neg e, if_neg e, if_neg e]
    have hm := rt_mem w1 (em_ne w1 e)
    have hmb := bst_mem l w1 lo x a3 _ hm
    rw [cv_bd_eq (has_t T (by omega) (by omega) (hs _ (by rw [ks_nd]; simp [hm]))), if_neg (fun z => by rw [ii_eq (by omega) (by omega) (by omega) (by omega)] at z; omega), cv_gd_pos g, cv_gd_pos g, cv_gd_pos g, ii_add, bmp_cons]
    simp only [eX4_lefts_lefts, eX4_rights_lefts, eX4_sizes_lefts, eX4_way_lefts, eX4_row_lefts, eX4_root_lefts, eX4_a_lefts, eX4_b_lefts, eX4_number_lefts, eX4_most_lefts, eX4_buildings_lefts, eX4_cost_lefts, eX4_lefts_rights, eX4_rights_rights, eX4_sizes_rights, eX4_way_rights, eX4_row_rights, eX4_root_rights, eX4_a_rights, eX4_b_rights, eX4_number_rights, eX4_most_rights, eX4_buildings_rights, eX4_cost_rights, eX4_lefts_sizes, eX4_rights_sizes, eX4_sizes_sizes, eX4_way_sizes, eX4_row_sizes, eX4_root_sizes, eX4_a_sizes, eX4_b_sizes, eX4_number_sizes, eX4_most_sizes, eX4_buildings_sizes, eX4_cost_sizes, eX4_lefts_way, eX4_rights_way, eX4_sizes_way, eX4_way_way, eX4_row_way, eX4_root_way, eX4_a_way, eX4_b_way, eX4_number_way, eX4_most_way, eX4_buildings_way, eX4_cost_way, eX4_lefts_row, eX4_rights_row, eX4_sizes_row, eX4_way_row, eX4_row_row, eX4_root_row, eX4_a_row, eX4_b_row, eX4_number_row, eX4_most_row, eX4_buildings_row, eX4_cost_row, eX4_lefts_root, eX4_rights_root, eX4_sizes_root, eX4_way_root, eX4_row_root, eX4_root_root, eX4_a_root, eX4_b_root, eX4_number_root, eX4_most_root, eX4_buildings_root, eX4_cost_root, eX4_lefts_a, eX4_rights_a, eX4_sizes_a, eX4_way_a, eX4_row_a, eX4_root_a, eX4_a_a, eX4_b_a, eX4_number_a, eX4_most_a, eX4_buildings_a, eX4_cost_a, eX4_lefts_b, eX4_rights_b, eX4_sizes_b, eX4_way_b, eX4_row_b, eX4_root_b, eX4_a_b, eX4_b_b, eX4_number_b, eX4_most_b, eX4_buildings_b, eX4_cost_b, eX4_lefts_number, eX4_rights_number, eX4_sizes_number, eX4_way_number, eX4_row_number, eX4_root_number, eX4_a_number, eX4_b_number, eX4_number_number, eX4_most_number, eX4_buildings_number, eX4_cost_number, eX4_lefts_most, eX4_rights_most, eX4_sizes_most, eX4_way_most, eX4_row_most, eX4_root_most, eX4_a_most, eX4_b_most, eX4_number_most, eX4_most_most, eX4_buildings_most, eX4_cost_most, eX4_lefts_buildings, eX4_rights_buildings, eX4_sizes_buildings, eX4_way_buildings, eX4_row_buildings, eX4_root_buildings, eX4_a_buildings, eX4_b_buildings, eX4_number_buildings, eX4_most_buildings, eX4_buildings_buildings, eX4_cost_buildings, eX4_lefts_cost, eX4_rights_cost, eX4_sizes_cost, eX4_way_cost, eX4_row_cost, eX4_root_cost, eX4_a_cost, eX4_b_cost, eX4_number_cost, eX4_most_cost, eX4_buildings_cost, eX4_cost_cost]
    rw [qX4_lefts T (by omega) (by omega), b1]
    rw [show gX4_sizes T (ii x).toNatClampNeg - ii 1 = gX4_sizes T (ii x).toNatClampNeg + ii (-1) by rw [qX4_sizes T (by omega) (by omega), ii_sub, ii_add]; rfl]
    have q1 := rd_lo (gX4_sizes T) x
    have q2 := rd_hi (gX4_sizes T) x
    have q3 := hs x (by rw [ks_nd]; simp)
    exact h1 lo x x a3 hlo (by omega) e (sX4_sizes T (upd (gX4_sizes T) (ii x).toNatClampNeg (gX4_sizes T (ii x).toNatClampNeg + ii (-1)))) n (i + 1) b3 (fun y hy => by
      have := bst_mem l w1 lo x a3 y hy
      show 0 < rd (upd (gX4_sizes T) (ii x).toNatClampNeg (gX4_sizes T (ii x).toNatClampNeg + ii (-1))) y
      rw [qX4_sizes T (by omega) (by omega), ii_add, rd_upd _ (by omega) (by omega) (by omega) (by omega) (by omega), if_neg (by omega)]
      exact hs y (by rw [ks_nd]; simp [hy])) (by omega) (by omega) (by omega))

theorem mk3_b (T : SX4) (B L1 R1 L2 S2 : Nat → Int32) : sX4_sizes (sX4_lefts (sX4_rights (sX4_lefts (sX4_sizes T B) L1) R1) L2) S2 = mk3 T L2 R1 S2 := rfl
/-- the one that comes to a key's place -/
theorem heir_eq {T : SX4} {k : Int} {l r : Tr} (w1 : tr_wf l) (w2 : tr_wf r) {lo hi : Int} (hb : bst lo hi (nd k l r)) (hlo : -1 ≤ lo) (hhi : hi ≤ 100) (hp : rp (rd (gX4_lefts T)) (rd (gX4_rights T)) (nd k l r)) (hz : sz l + sz r < 40)
    (hsl : ∀ j ∈ ks l, rd (gX4_sizes T) j = sz (at_ j l)) (hsr : ∀ j ∈ ks r, rd (gX4_sizes T) j = sz (at_ j r)) (hsk : rd (gX4_sizes T) k = sz l + sz r) :
    ∃ l' r' s', fX4_heirOf T (ii k) = some (ii (rt (jn l r)), mk3 T l' r' s') ∧ rp (rd l') (rd r') (jn l r) ∧ (∀ j ∈ ks (jn l r), rd s' j = sz (at_ j (jn l r))) ∧ ∀ j, 0 ≤ j → j ∉ ks l → j ∉ ks r → rd l' j = rd (gX4_lefts T) j ∧ rd r' j = rd (gX4_rights T) j ∧ rd s' j = rd (gX4_sizes T) j := by
  obtain ⟨a1, a2, a3, a4⟩ := bst_nd.mp hb
  obtain ⟨b1, b2, b3, b4⟩ := rp_nd.mp hp
  have s1 := sz_nonneg l w1
  have s2 := sz_nonneg r w2
  have g := ii_in (k := k) (n := 100) (by omega) (by omega) (by omega)
  have rl := rt_lt w1 a3 hlo (by omega)
  have rr := rt_lt w2 a4 (by omega) (by omega)
  have posl : ∀ j ∈ ks l, 0 < rd (gX4_sizes T) j := fun j hj => by rw [hsl j hj]; exact (at_pos w1 a3).mpr hj
  have posr : ∀ j ∈ ks r, 0 < rd (gX4_sizes T) j := fun j hj => by rw [hsr j hj]; exact (at_pos w2 a4).mpr hj
  unfold fX4_heirOf
  rw [cv_gd_pos g, qX4_lefts T (by omega) (by omega), b1]
  by_cases e : em l = true
  · have el : jn l r = r := by unfold jn; rw [if_pos e]
    rw [el]
    refine ⟨gX4_lefts T, gX4_rights T, gX4_sizes T, ?_, b4, hsr, fun _ _ _ _ => ⟨rfl, rfl, rfl⟩⟩
    rw [em_eq w1 e, rt_lf, cv_bd_eq (has_f T (by omega) (by omega) (by omega)), ii_l0, if_pos rfl, cv_gd_pos g, qX4_rights T (by omega) (by omega), b2, mk3_self]
  · have hm := rt_mem w1 (em_ne w1 e)
    have hmb := bst_mem l w1 lo k a3 _ hm
    rw [cv_bd_eq (has_t T (by omega) (by omega) (posl _ hm)), ii_l0, if_neg (fun z => by rw [ii_eq (by omega) (by omega) (by omega) (by omega)] at z; omega), cv_gd_pos g, qX4_rights T (by omega) (by omega), b2]
    by_cases f : em r = true
    · have el : jn l r = l := by unfold jn; rw [if_neg e, if_pos f]
      rw [el]
      refine ⟨gX4_lefts T, gX4_rights T, gX4_sizes T, ?_, b3, hsl, fun _ _ _ _ => ⟨rfl, rfl, rfl⟩⟩
      rw [em_eq w2 f, rt_lf, cv_bd_eq (has_f T (by omega) (by omega) (by omega)), if_pos rfl, cv_gd_pos g, mk3_self]
    · have hm2 := rt_mem w2 (em_ne w2 f)
      have hmb2 := bst_mem r w2 k hi a4 _ hm2
      rw [cv_bd_eq (has_t T (by omega) (by omega) (posr _ hm2)), if_neg (fun z => by rw [ii_eq (by omega) (by omega) (by omega) (by omega)] at z; omega)]
      have el : jn l r = nd (mn r) l (dm r) := by unfold jn; rw [if_neg e, if_neg f]
      obtain ⟨x, hx⟩ : ∃ x, x = mn r := ⟨_, rfl⟩
      obtain ⟨o, ho⟩ : ∃ o, o = ov k r := ⟨_, rfl⟩
      have xr : x ∈ ks r := by rw [hx]; exact mn_mem r w2 f
      have xb := bst_mem r w2 k hi a4 _ xr
      have kr : k ∉ ks r := fun z => by have := bst_mem r w2 k hi a4 _ z; omega
      have osf := ov_self w2 a4 f kr
      have ogt := ov_gt r w2 k hi k a4 f
      have drt := dm_rt w2 b4 a4 f
      have rmn := r_mn r w2 f b4
      rw [← hx, ← ho] at ogt
      rw [← hx] at drt rmn
      rw [← hx, ← ho] at osf
      rw [el, rt_nd, ← hx]
      have spl := sp_len r w2
      have hL := lift_L (u1 := ii k) r w2 k hi k a4 (by omega) hhi f T 256 0 b4 posr (by omega) (by
        have := dm_sz r w2 f
        have h3 := sp_nodup r w2 k hi a4
        omega) (by omega)
      rw [← hx, ← ho] at hL
      obtain ⟨T1, hT1⟩ : ∃ T1, T1 = sX4_sizes T (bmp (-1) (gX4_sizes T) (sp r)) := ⟨_, rfl⟩
      rw [← hT1] at hL
      have ob : 0 ≤ o ∧ o < 100 := by
        rcases ogt with z | z
        · omega
        · have := bst_mem r w2 k hi a4 _ z.1; omega
      have gx := ii_in (k := x) (n := 100) (by omega) (by omega) (by omega)
      have go := ii_in (k := o) (n := 100) ob.1 ob.2 (by omega)
      have rx : -1 ≤ rd (gX4_rights T) x ∧ rd (gX4_rights T) x < 100 := by
        rcases rmn with z | z
        · omega
        · have := bst_mem r w2 k hi a4 _ z; omega
      have l1 : gX4_lefts T1 = gX4_lefts T := by rw [hT1]; rfl
      have r1 : gX4_rights T1 = gX4_rights T := by rw [hT1]; rfl
      have z1 : ∀ j, 0 ≤ j → rd (gX4_sizes T1) j = rd (gX4_sizes T) j + (if j ∈ sp r then -1 else 0) := fun j hj => by
        rw [hT1]
        show rd (bmp (-1) (gX4_sizes T) (sp r)) j = _
        refine bmp_rd (-1) (by omega) (sp r) _ (sp_nodup r w2 k hi a4) (fun y hy => ?_) j hj
        have q := (sp_sub r w2 k hi a4 y hy).1
        have q1 := bst_mem r w2 k hi a4 y q
        have q2 := posr y q
        have q3 := at_le y r w2
        rw [hsr y q] at q2 ⊢
        omega
      -- the links, the sizes in the end
      obtain ⟨l', hl'⟩ : ∃ l', l' = upd (if o = k then gX4_lefts T else upd (gX4_lefts T) (ii o).toNatClampNeg (ii (rd (gX4_rights T) x))) (ii x).toNatClampNeg (ii (rt l)) := ⟨_, rfl⟩
      obtain ⟨r', hr'⟩ : ∃ r', r' = (if o = k then gX4_rights T else upd (gX4_rights T) (ii x).toNatClampNeg (ii (rt r))) := ⟨_, rfl⟩
      obtain ⟨s', hs'⟩ : ∃ s', s' = upd (gX4_sizes T1) (ii x).toNatClampNeg (ii (sz l + sz r)) := ⟨_, rfl⟩
      have le : ∀ j, 0 ≤ j → rd l' j = if j = x then rt l else if o ≠ k ∧ j = o then rd (gX4_rights T) x else rd (gX4_lefts T) j := fun j hj => by
        rw [hl', rd_upd _ (by omega) (by omega) (by omega) (by omega) hj]
        by_cases c : j = x
        · rw [if_pos c, if_pos c]
        · rw [if_neg c, if_neg c]
          by_cases d : o = k
          · rw [if_pos d, if_neg (fun z => z.1 d)]
          · rw [if_neg d, rd_upd _ ob.1 (by omega) (by omega) (by omega) hj]
            by_cases q : j = o
            · rw [if_pos q, if_pos ⟨d, q⟩]
            · rw [if_neg q, if_neg (fun z => q z.2)]
      have re : ∀ j, 0 ≤ j → rd r' j = if o ≠ k ∧ j = x then rt r else rd (gX4_rights T) j := fun j hj => by
        rw [hr']
        by_cases d : o = k
        · rw [if_pos d, if_neg (fun z => z.1 d)]
        · rw [if_neg d, rd_upd _ (by omega) (by omega) (by omega) (by omega) hj]
          by_cases q : j = x
          · rw [if_pos q, if_pos ⟨d, q⟩]
          · rw [if_neg q, if_neg (fun z => q z.2)]
      have se : ∀ j, 0 ≤ j → rd s' j = if j = x then sz l + sz r else rd (gX4_sizes T) j + (if j ∈ sp r then -1 else 0) := fun j hj => by
        rw [hs', rd_upd _ (by omega) (by omega) (by omega) (by omega) hj, z1 j hj]
      have hkk : k ∉ sp r := fun z => kr (sp_sub r w2 k hi a4 k z).1
      refine ⟨l', r', s', ?_, ?_, ?_, ?_⟩
      · unfold fX4_liftLeast
        rw [cv_gd_pos g, cv_lt_eq, qX4_rights T (by omega) (by omega), b2, ii_l0, cv_bd_eq hL]
        simp only [cv_lt_eq]
        by_cases d : o = k
        · rw [if_pos (by rw [d]), cv_bd_some, cv_gd_pos g, cv_gd_pos gx, cv_gd_pos g, cv_gd_pos gx]
          simp only [eX4_lefts_lefts, eX4_rights_lefts, eX4_sizes_lefts, eX4_way_lefts, eX4_row_lefts, eX4_root_lefts, eX4_a_lefts, eX4_b_lefts, eX4_number_lefts, eX4_most_lefts, eX4_buildings_lefts, eX4_cost_lefts, eX4_lefts_rights, eX4_rights_rights, eX4_sizes_rights, eX4_way_rights, eX4_row_rights, eX4_root_rights, eX4_a_rights, eX4_b_rights, eX4_number_rights, eX4_most_rights, eX4_buildings_rights, eX4_cost_rights, eX4_lefts_sizes, eX4_rights_sizes, eX4_sizes_sizes, eX4_way_sizes, eX4_row_sizes, eX4_root_sizes, eX4_a_sizes, eX4_b_sizes, eX4_number_sizes, eX4_most_sizes, eX4_buildings_sizes, eX4_cost_sizes, eX4_lefts_way, eX4_rights_way, eX4_sizes_way, eX4_way_way, eX4_row_way, eX4_root_way, eX4_a_way, eX4_b_way, eX4_number_way, eX4_most_way, eX4_buildings_way, eX4_cost_way, eX4_lefts_row, eX4_rights_row, eX4_sizes_row, eX4_way_row, eX4_row_row, eX4_root_row, eX4_a_row, eX4_b_row, eX4_number_row, eX4_most_row, eX4_buildings_row, eX4_cost_row, eX4_lefts_root, eX4_rights_root, eX4_sizes_root, eX4_way_root, eX4_row_root, eX4_root_root, eX4_a_root, eX4_b_root, eX4_number_root, eX4_most_root, eX4_buildings_root, eX4_cost_root, eX4_lefts_a, eX4_rights_a, eX4_sizes_a, eX4_way_a, eX4_row_a, eX4_root_a, eX4_a_a, eX4_b_a, eX4_number_a, eX4_most_a, eX4_buildings_a, eX4_cost_a, eX4_lefts_b, eX4_rights_b, eX4_sizes_b, eX4_way_b, eX4_row_b, eX4_root_b, eX4_a_b, eX4_b_b, eX4_number_b, eX4_most_b, eX4_buildings_b, eX4_cost_b, eX4_lefts_number, eX4_rights_number, eX4_sizes_number, eX4_way_number, eX4_row_number, eX4_root_number, eX4_a_number, eX4_b_number, eX4_number_number, eX4_most_number, eX4_buildings_number, eX4_cost_number, eX4_lefts_most, eX4_rights_most, eX4_sizes_most, eX4_way_most, eX4_row_most, eX4_root_most, eX4_a_most, eX4_b_most, eX4_number_most, eX4_most_most, eX4_buildings_most, eX4_cost_most, eX4_lefts_buildings, eX4_rights_buildings, eX4_sizes_buildings, eX4_way_buildings, eX4_row_buildings, eX4_root_buildings, eX4_a_buildings, eX4_b_buildings, eX4_number_buildings, eX4_most_buildings, eX4_buildings_buildings, eX4_cost_buildings, eX4_lefts_cost, eX4_rights_cost, eX4_sizes_cost, eX4_way_cost, eX4_row_cost, eX4_root_cost, eX4_a_cost, eX4_b_cost, eX4_number_cost, eX4_most_cost, eX4_buildings_cost, eX4_cost_cost]
          rw [l1, qX4_lefts T (by omega) (by omega), b1, qX4_sizes T1 (by omega) (by omega), z1 k (by omega), if_neg hkk, hsk, Int.add_zero, cv_bd_some, hl', hr', hs', if_pos d, if_pos d, hT1]
          rfl
        · rw [if_neg (fun z => d ((ii_eq (by omega) (by omega) (by omega) (by omega)).mp z)), cv_gd_pos gx, cv_gd_pos go, cv_gd_pos g, cv_gd_pos gx, cv_bd_some, cv_gd_pos g, cv_gd_pos gx, cv_gd_pos g, cv_gd_pos gx]
          simp only [eX4_lefts_lefts, eX4_rights_lefts, eX4_sizes_lefts, eX4_way_lefts, eX4_row_lefts, eX4_root_lefts, eX4_a_lefts, eX4_b_lefts, eX4_number_lefts, eX4_most_lefts, eX4_buildings_lefts, eX4_cost_lefts, eX4_lefts_rights, eX4_rights_rights, eX4_sizes_rights, eX4_way_rights, eX4_row_rights, eX4_root_rights, eX4_a_rights, eX4_b_rights, eX4_number_rights, eX4_most_rights, eX4_buildings_rights, eX4_cost_rights, eX4_lefts_sizes, eX4_rights_sizes, eX4_sizes_sizes, eX4_way_sizes, eX4_row_sizes, eX4_root_sizes, eX4_a_sizes, eX4_b_sizes, eX4_number_sizes, eX4_most_sizes, eX4_buildings_sizes, eX4_cost_sizes, eX4_lefts_way, eX4_rights_way, eX4_sizes_way, eX4_way_way, eX4_row_way, eX4_root_way, eX4_a_way, eX4_b_way, eX4_number_way, eX4_most_way, eX4_buildings_way, eX4_cost_way, eX4_lefts_row, eX4_rights_row, eX4_sizes_row, eX4_way_row, eX4_row_row, eX4_root_row, eX4_a_row, eX4_b_row, eX4_number_row, eX4_most_row, eX4_buildings_row, eX4_cost_row, eX4_lefts_root, eX4_rights_root, eX4_sizes_root, eX4_way_root, eX4_row_root, eX4_root_root, eX4_a_root, eX4_b_root, eX4_number_root, eX4_most_root, eX4_buildings_root, eX4_cost_root, eX4_lefts_a, eX4_rights_a, eX4_sizes_a, eX4_way_a, eX4_row_a, eX4_root_a, eX4_a_a, eX4_b_a, eX4_number_a, eX4_most_a, eX4_buildings_a, eX4_cost_a, eX4_lefts_b, eX4_rights_b, eX4_sizes_b, eX4_way_b, eX4_row_b, eX4_root_b, eX4_a_b, eX4_b_b, eX4_number_b, eX4_most_b, eX4_buildings_b, eX4_cost_b, eX4_lefts_number, eX4_rights_number, eX4_sizes_number, eX4_way_number, eX4_row_number, eX4_root_number, eX4_a_number, eX4_b_number, eX4_number_number, eX4_most_number, eX4_buildings_number, eX4_cost_number, eX4_lefts_most, eX4_rights_most, eX4_sizes_most, eX4_way_most, eX4_row_most, eX4_root_most, eX4_a_most, eX4_b_most, eX4_number_most, eX4_most_most, eX4_buildings_most, eX4_cost_most, eX4_lefts_buildings, eX4_rights_buildings, eX4_sizes_buildings, eX4_way_buildings, eX4_row_buildings, eX4_root_buildings, eX4_a_buildings, eX4_b_buildings, eX4_number_buildings, eX4_most_buildings, eX4_buildings_buildings, eX4_cost_buildings, eX4_lefts_cost, eX4_rights_cost, eX4_sizes_cost, eX4_way_cost, eX4_row_cost, eX4_root_cost, eX4_a_cost, eX4_b_cost, eX4_number_cost, eX4_most_cost, eX4_buildings_cost, eX4_cost_cost]
          rw [l1, r1, qX4_rights T (by omega) (by omega), qX4_rights T (by omega) (by omega), b2, show upd (gX4_lefts T) (ii o).toNatClampNeg (ii (rd (gX4_rights T) x)) (ii k).toNatClampNeg = ii (rt l) by
            rw [rd_ii (upd (gX4_lefts T) (ii o).toNatClampNeg (ii (rd (gX4_rights T) x))) (k := k) (by omega) (by omega), rd_upd _ ob.1 (by omega) (by omega) (by omega) (by omega), if_neg (fun z => d z.symm), b1], qX4_sizes T1 (by omega) (by omega), z1 k (by omega), if_neg hkk, hsk, Int.add_zero, cv_bd_some, hl', hr', hs', if_neg d, if_neg d, hT1, mk3_b]
      · refine rp_nd.mpr ⟨?_, ?_, ?_, ?_⟩
        · rw [le x (by omega), if_pos rfl]
        · rw [re x (by omega), drt]
          by_cases d : o = k
          · rw [if_neg (fun z => z.1 d), if_pos (osf.mp d)]
          · rw [if_pos ⟨d, rfl⟩, if_neg (fun z => d (osf.mpr z))]
        · refine rp_frame l w1 (fun j hj => ?_) b3
          have q := bst_mem l w1 lo k a3 j hj
          rw [le j (by omega), re j (by omega), if_neg (by omega), if_neg (fun z => by
            rcases ogt with y | y
            · exact z.1 y
            · have := bst_mem r w2 k hi a4 _ y.1
              omega), if_neg (fun z => by omega)]
          exact ⟨rfl, rfl⟩
        · refine dm_rp r w2 k hi k a4 f kr b4 (fun j hj hm => ?_)
          have q := bst_mem r w2 k hi a4 j hj
          rw [← hx] at hm
          rw [← hx, ← ho]
          refine ⟨?_, by rw [re j (by omega), if_neg (fun z => hm z.2)]⟩
          rw [le j (by omega), if_neg hm]
          by_cases c : j = o
          · rw [if_pos c, if_pos ⟨fun z => by omega, c⟩]
          · rw [if_neg c, if_neg (fun z => c z.2)]
      · intro j hj
        rw [ks_nd] at hj
        rw [at_nd]
        by_cases c : j = x
        · rw [if_pos c, c, se x (by omega), if_pos rfl, sz_nd, dm_sz r w2 f]; omega
        · rw [if_neg c]
          rcases List.mem_append.mp hj with z | z
          · have q := bst_mem l w1 lo k a3 j z
            have nsp : j ∉ sp r := fun y => by
              have := bst_mem r w2 k hi a4 _ (sp_sub r w2 k hi a4 j y).1; omega
            rw [if_pos (by omega), se j (by omega), if_neg c, if_neg nsp, hsl j z]; omega
          · rcases List.mem_cons.mp z with z | z
            · exact absurd z c
            · have z' := ((dm_ks j r w2 k hi a4).mp z).1
              have q := bst_mem r w2 k hi a4 j z'
              have q2 := mn_le r w2 k hi a4 j z'
              rw [← hx] at q2
              rw [if_neg (by omega), se j (by omega), if_neg c, dm_at j r w2 k hi a4 f, ← hx, if_neg c, hsr j z']
              split <;> omega
      · intro j j0 jl jr
        have c1 : j ≠ x := fun z => jr (by rw [z]; exact xr)
        have c2 : ¬ (o ≠ k ∧ j = o) := fun z => by
          rcases ogt with y | y
          · exact z.1 y
          · exact jr (by rw [z.2]; exact y.1)
        have c3 : j ∉ sp r := fun z => jr (sp_sub r w2 k hi a4 j z).1
        rw [le j j0, re j j0, se j j0, if_neg c1, if_neg c2, if_neg (fun z => c1 z.2), if_neg c1, if_neg c3]
        exact ⟨rfl, rfl, by omega⟩
