/-! the class's tree: a key is taken -/
theorem isFew_eq (T : SX4) {a b m n : Int} (ha : gX4_a T = ii a) (hb : gX4_b T = ii b) (hm : gX4_most T = ii m) (hr : rat a b) (m0 : 0 ≤ m ∧ m ≤ 40) (n0 : -1 ≤ n ∧ n ≤ 41) : fX4_isFew T (ii n) = some (if 0 < n ∧ b * n < a * m then ii 1 else ii 0) := by
  have hr' : 2 ≤ a ∧ a ≤ 4 ∧ 3 ≤ b ∧ b ≤ 5 := by unfold rat at hr; omega
  unfold fX4_isFew
  rw [ha, hb, hm, ii_mul, ii_mul]
  simp (disch := omega) only [ii_l0, ii_l1, ii_l2, ii_l40, ii_l100, ii_neg, ii_le]
  by_cases c : n ≤ 0
  · rw [if_pos c, if_neg (by omega)]
  · rw [if_neg c]
    have p1 : b * n ≤ 5 * 41 := Int.mul_le_mul (by omega) (by omega) (by omega) (by omega)
    have p2 : 0 ≤ b * n := Int.mul_nonneg (by omega) (by omega)
    have p3 : a * m ≤ 5 * 41 := Int.mul_le_mul (by omega) (by omega) (by omega) (by omega)
    have p4 : 0 ≤ a * m := Int.mul_nonneg (by omega) (by omega)
    by_cases g : b * n < a * m
    · rw [if_neg (fun z => by rw [ii_le (by omega) (by omega) (by omega) (by omega)] at z; omega), if_pos ⟨by omega, g⟩]
    · rw [if_pos ((ii_le (by omega) (by omega) (by omega) (by omega)).mpr (by omega)), if_neg (fun z => g z.2)]
/-- what a TAKE leaves -/
def drM (m : Int) (t : Tr) : Int := if sz t - 1 = 0 then 0 else m
def drF (a b m : Int) (t : Tr) : Bool := decide (0 < sz t - 1 ∧ b * (sz t - 1) < a * drM m t)
def drT (a b m : Int) (t : Tr) (k : Int) : Tr := if drF a b m t = true then fk (dl k t) else dl k t
def drN (a b m : Int) (t : Tr) : Int := if drF a b m t = true then sz t - 1 else 0
def drO (a b m : Int) (t : Tr) : Int := if drF a b m t = true then sz t - 1 else drM m t
def drD (a b m : Int) (t : Tr) : Int := if drF a b m t = true then 1 else 0
theorem jo_at {t : Tr} (w : tr_wf t) {lo hi : Int} (hb : bst lo hi t) {k : Int} (hk : k ∈ ks t) : tr_wf (jo (at_ k t)) ∧ sz (jo (at_ k t)) = sz (at_ k t) - 1 ∧ (∀ a b, bst a b (at_ k t) → bst a b (jo (at_ k t))) ∧ ∀ j, j ∈ ks (jo (at_ k t)) ↔ j ∈ ks (at_ k t) ∧ j ≠ k := by
  obtain ⟨l, r, e, w1, w2⟩ := at_some t w lo hi k hb hk
  obtain ⟨c1, c2, c3, c4, c5, c6⟩ := at_iv k t w lo hi hb hk
  rw [e] at c1 ⊢
  obtain ⟨a1, a2, a3, a4⟩ := bst_nd.mp c1
  refine ⟨jn_wf w1 w2, by rw [jo_nd, jn_sz w1 w2, sz_nd]; omega, fun a b q => jn_bst w1 w2 q, fun j => ?_⟩
  rw [jo_nd, jn_ks w1 w2 c1, ks_nd, List.mem_append, List.mem_cons]
  constructor
  · rintro (z | z)
    · have := bst_mem l w1 _ _ a3 j z
      exact ⟨Or.inl z, by omega⟩
    · have := bst_mem r w2 _ _ a4 j z
      exact ⟨Or.inr (Or.inr z), by omega⟩
  · rintro ⟨z | z | z, y⟩
    · exact Or.inl z
    · exact absurd z y
    · exact Or.inr z
theorem dl_wf {t : Tr} (w : tr_wf t) {lo hi : Int} (hb : bst lo hi t) {k : Int} (hk : k ∈ ks t) : tr_wf (dl k t) := gr_wf k (jo_at w hb hk).1 t w
theorem dl_bst {t : Tr} (w : tr_wf t) {lo hi : Int} (hb : bst lo hi t) {k : Int} (hk : k ∈ ks t) : bst lo hi (dl k t) := gr_bst k t w lo hi hb hk (jo_at w hb hk).2.2.1
theorem dl_sz {t : Tr} (w : tr_wf t) {lo hi : Int} (hb : bst lo hi t) {k : Int} (hk : k ∈ ks t) : sz (dl k t) = sz t - 1 := by
  unfold dl
  rw [gr_sz k _ t w lo hi hb hk, (jo_at w hb hk).2.1]
  omega
theorem dl_ks {t : Tr} (w : tr_wf t) {lo hi : Int} (hb : bst lo hi t) {k : Int} (hk : k ∈ ks t) (j : Int) : j ∈ ks (dl k t) ↔ j ∈ ks t ∧ j ≠ k := by
  unfold dl
  rw [gr_ks k j _ t w lo hi hb hk, (jo_at w hb hk).2.2.2 j]
  have hs := at_self w hb hk
  constructor
  · rintro (z | z)
    · exact ⟨at_sub k j t w z.1, z.2⟩
    · exact ⟨z.1, fun y => z.2 (by rw [y]; exact hs)⟩
  · rintro ⟨z, y⟩
    by_cases c : j ∈ ks (at_ k t)
    · exact Or.inl ⟨c, y⟩
    · exact Or.inr ⟨z, c⟩
theorem em_sz {t : Tr} (w : tr_wf t) : em t = true ↔ sz t = 0 := by
  rcases tr_cases w with rfl | ⟨x, l, r, rfl, w1, w2⟩
  · exact ⟨fun _ => rfl, fun _ => rfl⟩
  · have := sz_pos (k := x) w1 w2
    exact ⟨fun z => absurd z (em_nn _ _ _), fun z => by omega⟩
theorem drop_eq {T : SX4} {t : Tr} (h : ct T t) {a b m d c : Int} (hr : rat a b) (hn : cn T a b m d c) (hm : 0 ≤ m ∧ m ≤ 40) {k : Int} (hk : k ∈ ks t) :
    ∃ T', fX4_drop T (ii k) = some (ii (drN a b m t), T') ∧ ct T' (drT a b m t k) ∧ cn T' a b (drO a b m t) (d + drD a b m t) (c + drN a b m t) := by
  have h' := h
  obtain ⟨w, hb, hz, hrt, hp, hs, hnum⟩ := h
  have k0 := bst_mem t w _ _ hb k hk
  have hwalk := ct_walk h' (k := k) (by omega) (by omega)
  obtain ⟨xs, ew, epa⟩ := wy_there k t w _ _ (-1) hb hk
  have hl := wy_len t w k
  rw [ew, List.length_append, List.length_singleton] at hl
  rw [ew] at hwalk
  obtain ⟨ys, hys⟩ : ∃ ys, ys = xs ++ [k] := ⟨_, rfl⟩
  have ly : ys.length = xs.length + 1 := by rw [hys, List.length_append, List.length_singleton]
  have yin : ∀ x ∈ ys, 0 ≤ x ∧ x < 100 := fun x hx => by
    have := bst_mem t w _ _ hb x (wy_sub t w k x (by rw [ew, ← hys]; exact hx))
    omega
  rw [← hys] at hwalk
  obtain ⟨T1, hT1⟩ : ∃ T1, T1 = sX4_way T (wrt (gX4_way T) 0 ys) := ⟨_, rfl⟩
  rw [← hT1] at hwalk
  have c1 : ct T1 t := by rw [hT1]; exact h'
  have n1 : cn T1 a b m d c := by rw [hT1]; exact hn
  have w1' : ∀ j : Nat, j < ys.length → rd (gX4_way T1) j = ys.getD j 0 := fun j hj => by
    rw [hT1]
    exact walk_way (by omega) yin _ hj
  have hch := change_eq (d := -1) (xs := ys) (T := T1) (by omega) w1' yin
  obtain ⟨T2, hT2⟩ : ∃ T2, T2 = sX4_sizes T1 (bmp (-1) (gX4_sizes T1) ys) := ⟨_, rfl⟩
  rw [← hT2] at hch
  have s2 : ∀ j, 0 ≤ j → j < 100 → rd (gX4_sizes T2) j = sz (at_ j t) + (if j ∈ ys then -1 else 0) := fun j j0 j1 => by
    rw [hT2]
    show rd (bmp (-1) (gX4_sizes T1) ys) j = _
    have hsz : ∀ y : Int, 0 ≤ y → y < 100 → rd (gX4_sizes T1) y = sz (at_ y t) := fun y a b => by rw [hT1]; exact hs y a b
    rw [bmp_rd (-1) (by omega) ys _ (by rw [hys, ← ew]; exact wy_nodup t w _ _ k hb) (fun y hy => by
      have q := yin y hy
      have q1 := at_le y t w
      have q2 := sz_nonneg _ (at_wf y t w)
      rw [hsz y q.1 q.2]
      omega) j j0, hsz j j0 j1]
  -- the one above
  obtain ⟨p, hpa⟩ : ∃ p, p = pa k (-1) t := ⟨_, rfl⟩
  have hpin := pa_in k t w (-1) 100 (-1) hb hk
  have hpout := pa_out k t w (-1) 100 (-1) hb hk (fun z => by have := bst_mem t w _ _ hb _ z; omega)
  rw [← hpa] at epa hpin hpout
  have hpb : -1 ≤ p ∧ p < 100 := by
    by_cases z : k = rt t
    · have := hpin.1 z; omega
    · have := bst_mem t w _ _ hb _ (hpin.2 z); omega
  have hpx : k ≠ p := fun z => hpout (by rw [← z]; exact at_self w hb hk)
  have w2 : gX4_way T2 = gX4_way T1 := by rw [hT2]; rfl
  have o1 : fX4_onWay T2 (ii ((ys.length : Int) - 2)) = some (ii p) := by
    rw [fX4_onWay_eq T2 (by omega) (by omega), w2, epa]
    by_cases z : xs.length = 0
    · rw [if_neg (by omega), List.length_eq_zero_iff.mp z]; rfl
    · rw [if_pos (by omega), ← last_at xs k (by omega), ← hys, ← w1' (xs.length - 1) (by omega)]
      congr 3
      omega
  -- the heir
  obtain ⟨l, r, eat, wl, wr⟩ := at_some t w _ _ k hb hk
  obtain ⟨v1, v2, v3, v4, v5, v6⟩ := at_iv k t w (-1) 100 hb hk
  have hat := at_le k t w
  rw [eat] at v1 v6 hat hpout
  rw [sz_nd] at hat
  obtain ⟨a1, a2, a3, a4⟩ := bst_nd.mp v1
  have rpat : rp (rd (gX4_lefts T2)) (rd (gX4_rights T2)) (nd k l r) := by
    have : ∀ t : Tr, tr_wf t → ∀ L R : Int → Int, rp L R t → rp L R (at_ k t) := tr_ind (fun _ _ _ => trivial) (fun y l r w1 w2 h1 h2 L R hq => by
      obtain ⟨q1, q2, q3, q4⟩ := rp_nd.mp hq
      rw [at_nd]
      by_cases e : k = y
      · rw [if_pos e]; exact hq
      · rw [if_neg e]
        by_cases g : k < y
        · rw [if_pos g]; exact h1 L R q3
        · rw [if_neg g]; exact h2 L R q4)
    rw [← eat, hT2, hT1]
    exact this t w _ _ hp
  have atin : ∀ j, j ∈ ks (nd k l r) → j ≠ k → j ∉ ys := fun j hj hne hy => by
    have : ∀ t : Tr, tr_wf t → ∀ lo hi : Int, bst lo hi t → k ∈ ks t → j ∈ wy k t → j ≠ k → j ∉ ks (at_ k t) := tr_ind (fun _ _ _ h => by rw [ks_lf] at h; cases h) (fun y l r w1 w2 h1 h2 lo hi hb hk hj hne => by
      obtain ⟨a1, a2, a3, a4⟩ := bst_nd.mp hb
      rw [wy_nd] at hj
      rw [at_nd]
      by_cases e : k = y
      · rw [if_pos e] at hj
        exact absurd (by simpa [e] using hj) hne
      · rw [if_neg e] at hj ⊢
        rcases side (t := lf) w1 w2 hb hk e with ⟨g, q⟩ | ⟨g, q⟩
        · rw [if_pos g] at hj ⊢
          rcases List.mem_cons.mp hj with z | z
          · exact fun y' => by have := bst_mem l w1 lo y a3 j (at_sub k j l w1 y'); omega
          · exact h1 lo y a3 q z hne
        · rw [if_neg g] at hj ⊢
          rcases List.mem_cons.mp hj with z | z
          · exact fun y' => by have := bst_mem r w2 y hi a4 j (at_sub k j r w2 y'); omega
          · exact h2 y hi a4 q z hne)
    exact this t w _ _ hb hk (by rw [ew, ← hys]; exact hy) hne (by rw [eat]; exact hj)
  have atat : ∀ j, j ∈ ks (nd k l r) → at_ j t = at_ j (nd k l r) := fun j hj => by
    have : ∀ t : Tr, tr_wf t → ∀ lo hi : Int, bst lo hi t → k ∈ ks t → j ∈ ks (at_ k t) → at_ j t = at_ j (at_ k t) := tr_ind (fun _ _ _ h => by rw [ks_lf] at h; cases h) (fun y l r w1 w2 h1 h2 lo hi hb hk hj => by
      obtain ⟨a1, a2, a3, a4⟩ := bst_nd.mp hb
      rw [at_nd k] at hj ⊢
      by_cases e : k = y
      · rw [if_pos e]
      · rw [if_neg e] at hj ⊢
        rcases side (t := lf) w1 w2 hb hk e with ⟨g, q⟩ | ⟨g, q⟩
        · rw [if_pos g] at hj ⊢
          have := bst_mem l w1 lo y a3 j (at_sub k j l w1 hj)
          rw [at_nd, if_neg (by omega), if_pos (by omega), h1 lo y a3 q hj]
        · rw [if_neg g] at hj ⊢
          have := bst_mem r w2 y hi a4 j (at_sub k j r w2 hj)
          rw [at_nd, if_neg (by omega), if_neg (by omega), h2 y hi a4 q hj])
    rw [← eat]
    exact this t w _ _ hb hk (by rw [eat]; exact hj)
  obtain ⟨l', r', s', eh, ph, zh, fh⟩ := heir_eq (T := T2) wl wr v1 v2 v3 rpat (by omega) (fun j hj => by
      have q := bst_mem l wl _ _ a3 j hj
      have jm : j ∈ ks (nd k l r) := by rw [ks_nd]; simp [hj]
      rw [s2 j (by omega) (by omega), if_neg (atin j jm (by omega)), atat j jm, at_nd, if_neg (by omega), if_pos q.2]
      omega) (fun j hj => by
      have q := bst_mem r wr _ _ a4 j hj
      have jm : j ∈ ks (nd k l r) := by rw [ks_nd]; simp [hj]
      rw [s2 j (by omega) (by omega), if_neg (atin j jm (by omega)), atat j jm, at_nd, if_neg (by omega), if_neg (by omega)]
      omega) (by rw [s2 k (by omega) (by omega), if_pos (by rw [hys]; simp), eat, sz_nd]; omega)
  obtain ⟨u, hu⟩ : ∃ u, u = jn l r := ⟨_, rfl⟩
  have ju := jo_at w hb hk
  rw [eat, jo_nd, ← hu] at ju
  obtain ⟨wu, su, bu, ku⟩ := ju
  rw [← hu] at eh ph zh
  have edl : dl k t = gr k u t := by unfold dl; rw [eat, jo_nd, hu]
  have ru := rt_lt wu (bu _ _ v1) v2 (by omega)
  obtain ⟨T3, hT3⟩ : ∃ T3, T3 = mk3 T2 l' r' s' := ⟨_, rfl⟩
  rw [← hT3] at eh
  obtain ⟨T4, hT4⟩ : ∃ T4, T4 = hng T3 p k (rt u) := ⟨_, rfl⟩
  have n4 : cn T4 a b m d c := by rw [hT4]; exact hng_cn _ _ _ (by rw [hT3, hT2]; exact n1)
  obtain ⟨T5, hT5⟩ : ∃ T5, T5 = sX4_number (sX4_sizes T4 (upd (gX4_sizes T4) (ii k).toNatClampNeg (ii 0))) (ii (sz t - 1)) := ⟨_, rfl⟩
  have n5 : cn T5 a b m d c := by rw [hT5]; exact n4
  have num4 : gX4_number T4 = ii (sz t) := by rw [hT4, hng_number, hT3, hT2, hT1]; exact hnum
  have c5 : ct T5 (dl k t) := by
    have t4l : ∀ j, 0 ≤ j → rd (gX4_lefts T5) j = if j = p ∧ k < j then rt u else rd l' j := fun j hj => by
      rw [hT5]
      show rd (gX4_lefts T4) j = _
      rw [hT4, hng_lefts T3 k hpb.1 hpb.2 ru.1 (by omega) hj, hT3]; rfl
    have t4r : ∀ j, 0 ≤ j → rd (gX4_rights T5) j = if j = p ∧ j < k then rt u else rd r' j := fun j hj => by
      rw [hT5]
      show rd (gX4_rights T4) j = _
      rw [hT4, hng_rights T3 k hpb.1 hpb.2 ru.1 (by omega) hj hpx, hT3]; rfl
    have g1 : ∀ j, j ∈ ks t → 0 ≤ j ∧ j < 100 := fun j hj => by have := bst_mem t w _ _ hb j hj; omega
    have nlr : ∀ j, j ∉ ks (nd k l r) → j ∉ ks l ∧ j ∉ ks r := fun j hj => by
      rw [ks_nd] at hj
      exact ⟨fun z => hj (by simp [z]), fun z => hj (by simp [z])⟩
    refine ⟨dl_wf w hb hk, dl_bst w hb hk, by rw [dl_sz w hb hk]; omega, ?_, ?_, ?_, ?_⟩
    · rw [hT5]
      show gX4_root T4 = _
      have hne : t ≠ lf := fun z => by rw [z, ks_lf] at hk; cases hk
      rw [hT4, hng_root, edl, gr_rt k u w hne]
      by_cases z : k = rt t
      · rw [if_pos (hpin.1 z), if_pos z]
      · have := g1 _ (hpin.2 z)
        rw [if_neg (by omega), if_neg z, hT3, hT2, hT1]
        exact hrt
    · rw [edl]
      refine gr_rp (L := rd (gX4_lefts T)) (R := rd (gX4_rights T)) k ?_ t w _ _ (-1) hb hk hp (fun j hj hn' => ?_)
      · refine rp_frame u wu (fun j hj => ?_) ph
        have hj' := (ku j).mp hj
        have q := bst_mem (nd k l r) ⟨wl, wr⟩ _ _ v1 j hj'.1
        have hkp : j ≠ p := fun z => hpout (by rw [← z]; exact hj'.1)
        rw [t4l j (by omega), t4r j (by omega), if_neg (fun z => hkp z.1), if_neg (fun z => hkp z.1)]
        exact ⟨rfl, rfl⟩
      · have := g1 j hj
        rw [eat] at hn'
        have F := fh j this.1 (nlr j hn').1 (nlr j hn').2
        rw [t4l j this.1, t4r j this.1, F.1, F.2.1, ← hpa, hT2, hT1]
        exact ⟨rfl, rfl⟩
    · intro j j0 j1
      rw [hT5]
      show rd (upd (gX4_sizes T4) (ii k).toNatClampNeg (ii 0)) j = _
      rw [rd_upd _ (by omega) (by omega) (by omega) (by omega) j0, edl, gr_at k j wu t w _ _ hb hk (fun i hi => by rw [eat]; exact ((ku i).mp hi).1), eat]
      by_cases z : j = k
      · rw [if_pos z, z, if_pos (by rw [ks_nd]; simp), at_none u wu k (fun y => ((ku k).mp y).2 rfl), sz_lf]
      · rw [if_neg z, hT4, hng_sizes, hT3]
        show rd s' j = _
        by_cases y : j ∈ ks (nd k l r)
        · rw [if_pos y]
          exact zh j ((ku j).mpr ⟨y, z⟩)
        · rw [if_neg y, (fh j j0 (nlr j y).1 (nlr j y).2).2.2, s2 j j0 j1, su, ew, ← hys]
          split <;> omega
    · rw [dl_sz w hb hk, hT5]
      rfl
  obtain ⟨T6, hT6⟩ : ∃ T6, T6 = (if sz t - 1 = 0 then sX4_most T5 (ii 0) else T5) := ⟨_, rfl⟩
  have c6 : ct T6 (dl k t) := by rw [hT6]; split <;> exact c5
  have n6 : cn T6 a b (drM m t) d c := by
    rw [hT6]
    unfold drM
    by_cases z : sz t - 1 = 0
    · rw [if_pos z, if_pos z]; exact ⟨n5.1, n5.2.1, rfl, n5.2.2.2.1, n5.2.2.2.2⟩
    · rw [if_neg z, if_neg z]; exact n5
  have m6 : 0 ≤ drM m t ∧ drM m t ≤ 40 := by unfold drM; split <;> omega
  have num6 : gX4_number T6 = ii (sz t - 1) := by rw [c6.2.2.2.2.2.2, dl_sz w hb hk]
  have s0 := (at_pos (k := k) w hb).mpr hk
  have s00 := at_le k t w
  have base : ∀ (res : Option (Int32 × SX4)), (if (if 0 < sz t - 1 ∧ b * (sz t - 1) < a * drM m t then ii 1 else ii 0) = ii 0 then some (ii 0, T6) else cv_bd (fX4_buildAll (sX4_most T6 (ii (sz t - 1)))) fun r14 => some (r14.1, r14.2)) = res → fX4_drop T (ii k) = res := by
    intro res hres
    unfold fX4_drop
    rw [cv_bd_eq hwalk]
    simp only [ii_l0, ii_l1, ii_l2, ii_l40, ii_l100, ii_neg]
    rw [cv_bd_eq hch, ii_sub, cv_bd_eq o1, cv_bd_eq eh]
    simp only []
    rw [cv_bd_eq (hang_eq T3 hpb.1 hpb.2 (by omega) (by omega)), ← hT4, cv_gd_pos (ii_in (by omega) (by omega) (by omega)), cv_lt_eq, cv_lt_eq]
    rw [show gX4_number (sX4_sizes T4 (upd (gX4_sizes T4) (ii k).toNatClampNeg (ii 0))) = ii (sz t) from num4, ii_sub, ← hT5, show gX4_number T5 = ii (sz t - 1) by rw [hT5]; rfl]
    rw [show (if ii (sz t - 1) = ii 0 then cv_lt (sX4_most T5 (ii 0)) fun s16 => some s16 else some T5) = some T6 by
      rw [hT6]
      by_cases z : sz t - 1 = 0
      · rw [if_pos (by rw [z]), if_pos z]; rfl
      · rw [if_neg (fun y => z ((ii_eq (by omega) (by omega) (by omega) (by omega)).mp y)), if_neg z]]
    rw [cv_bd_some, num6, cv_bd_eq (isFew_eq T6 n6.1 n6.2.1 n6.2.2.1 hr m6 (by omega))]
    exact hres
  by_cases fw : 0 < sz t - 1 ∧ b * (sz t - 1) < a * drM m t
  · have fe : drF a b m t = true := decide_eq_true fw
    have c7 : ct (sX4_most T6 (ii (sz t - 1))) (dl k t) := c6
    have n7 : cn (sX4_most T6 (ii (sz t - 1))) a b (sz t - 1) d c := ⟨n6.1, n6.2.1, rfl, n6.2.2.2.1, n6.2.2.2.2⟩
    obtain ⟨T', e1, e2, e3⟩ := buildAll_eq c7 n7 (fun z => by
      have := (em_sz (dl_wf w hb hk)).mp z
      rw [dl_sz w hb hk] at this
      omega)
    rw [dl_sz w hb hk] at e1 e3
    unfold drN drT drO drD
    rw [if_pos fe, if_pos fe, if_pos fe, if_pos fe]
    refine ⟨T', base _ ?_, e2, e3⟩
    rw [if_pos fw, if_neg (fun z => by rw [ii_eq (by omega) (by omega) (by omega) (by omega)] at z; omega), cv_bd_eq e1]
  · have fe : ¬ drF a b m t = true := fun z => fw (of_decide_eq_true z)
    unfold drN drT drO drD
    rw [if_neg fe, if_neg fe, if_neg fe, if_neg fe]
    refine ⟨T6, base _ ?_, c6, ?_⟩
    · rw [if_neg fw, if_pos rfl]
    · rw [Int.add_zero, Int.add_zero]; exact n6
