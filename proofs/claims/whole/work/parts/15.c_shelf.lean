/-! both: a key is taken, all is built anew -/
theorem drN_in {a b m : Int} {v : Tr} (hz : sz v ≤ 40) : 0 ≤ drN a b m v ∧ drN a b m v ≤ 40 := by
  unfold drN drF
  by_cases z : (0 < sz v - 1 ∧ b * (sz v - 1) < a * drM m v)
  · rw [if_pos (decide_eq_true z)]; omega
  · rw [if_neg (fun y => z (of_decide_eq_true y))]; omega
theorem drO_in {a b m : Int} {v : Tr} (hm : 0 ≤ m ∧ m ≤ 40) (hz : sz v ≤ 40) (h0 : 1 ≤ sz v) : 0 ≤ drO a b m v ∧ drO a b m v ≤ 40 := by
  unfold drO drM
  split
  · omega
  · split <;> omega
theorem take_out {n : Int} (hn : 0 ≤ n ∧ n ≤ 10000) {s : SX3} {M : SX6} {v : Tr} {a b m d c f x y : Int} {xs : List Int} {q : Nat} (h : sq n true s M v a b m d c f x y xs q) {k : Int} (hk : k ∈ ks v) :
    ∃ s' M', fX3_remove s (ii k) = some s' ∧ fX6_takeOut M (ii k) = some M' ∧ oq M' = oq M ∧ gX6_values M' = gX6_values M ∧ ∃ x' y' xs', sq (n + 1) true s' M' (drT a b m v k) a b (drO a b m v) (d + drD a b m v) (c + drN a b m v) f x' y' xs' q := by
  obtain ⟨⟨t1, t2, t3, t4, t5, t6⟩, h2, h3, h4, ⟨e1, e2, e3, e4, e5, e6, e7⟩, ⟨l1, l2, l3, l4⟩, hq⟩ := h
  obtain ⟨hr, hf1, hf2⟩ := h2.1 rfl
  obtain ⟨w, hb, hz, -⟩ := id t1
  have k0 := rc_in t2 hk
  have hl := wlen w hz k
  have hN := drN_in (a := a) (b := b) (m := m) hz
  have s1 : 1 ≤ sz v := by
    have : 0 < sz v := by
      have h0 := sz_ks v w
      have : 0 < (ks v).length := List.length_pos_of_mem hk
      omega
    omega
  obtain ⟨M2, b1, b2, b3, b4, b5, b6⟩ := leave6 t2 (Or.inl rfl) (ab0 t5) hr hk t4 t6
  have hsm : sm v (ts xs) → sm (drT a b m v k) (tg (ts xs) k) := fun z => sm_take z hk (dr_ks w hb hk hz) (dr_sz w hb hk hz)
  obtain ⟨lg', G', L', xs', g1, g2, g3, g4, g5, g6⟩ := log_add (lg := gX3_log s) (M := M2) (e := -1 - k) l1 (by rw [ot_logMany b5.1]; exact l2) (by rw [ot_log b5.1]; exact l3) l4 k0.1 k0.2 (fun _ => rfl) (fun z => absurd hk z) hsm
  have hw := ct_walk t1 (k := k) (by omega) (by omega)
  obtain ⟨T1, hT1⟩ : ∃ T1, T1 = sX4_way (gX3_tree s) (wrt (gX4_way (gX3_tree s)) 0 (wy k v)) := ⟨_, rfl⟩
  rw [← hT1] at hw
  have ctT : ct T1 v := by rw [hT1]; exact t1
  have cnT : cn T1 a b m d c := by rw [hT1]; exact t3
  obtain ⟨T2, a1, a2, a3⟩ := drop_eq ctT hr cnT t6 hk
  obtain ⟨m1, m2, m3, m4, m5, m6, m7, m8, m9, m10⟩ := mny (x := x) (y := y) (f := f) (w := (wy k v).length) (N := drN a b m v) hn e5 e6 e7 (by omega) (by omega) hN
  obtain ⟨s5, hs5⟩ : ∃ s5, s5 = sX3_lowest (sX3_credit (sX3_tree (sX3_credit (sX3_tree (sX3_log s lg') T1) (ii x + ii f * ii (wy k v).length)) T2) (ii (x + f * (wy k v).length - drN a b m v))) (ii (min y (x + f * (wy k v).length - drN a b m v))) := ⟨_, rfl⟩
  have no : drF a b m v = false → drN a b m v = 0 := fun z => by unfold drN; rw [z]; rfl
  refine ⟨s5, sX6_logMany (sX6_log M2 G') L', ?_, ?_, (ot_oq b5.1 : oq M2 = oq M), (ot_values b5.1 : gX6_values M2 = _), x + f * (wy k v).length - drN a b m v, min y (x + f * (wy k v).length - drN a b m v), xs', ⟨?_, b2, ?_, b3, ⟨(ot_ratioA b5.1 : gX6_ratioA M2 = _).trans t5.1, (ot_ratioB b5.1 : gX6_ratioB M2 = _).trans t5.2⟩, drO_in t6 hz s1⟩, ⟨fun _ => ⟨hr, hf1, hf2⟩, fun z => by cases z⟩, ⟨?_, (ot_fee b5.1 : gX6_fee M2 = _).trans h3.2⟩, ⟨?_, ?_⟩, ⟨?_, ?_, ?_, ?_, m7, m8, m9⟩, ⟨?_, g4, ?_, g6⟩, ?_⟩
  · unfold fX3_remove
    simp only [ii_l0, ii_l1, ii_l2, ii_l40, ii_l100, ii_neg, cv_lt_eq]
    rw [cv_bd_eq g1, show gX3_tree (sX3_log s lg') = gX3_tree s from rfl, cv_bd_eq hw]
    have c4 : gX3_credit (sX3_log s lg') = ii x := e1
    have f4 : gX3_fee (sX3_log s lg') = ii f := h3.1
    simp only [c4, f4]
    rw [show gX3_tree (sX3_credit (sX3_tree (sX3_log s lg') T1) (ii x + ii f * ii (wy k v).length)) = T1 from rfl, cv_bd_eq a1]
    simp only []
    unfold fX3_settle
    simp only [cv_lt_eq]
    rw [show gX3_credit (sX3_tree (sX3_credit (sX3_tree (sX3_log s lg') T1) (ii x + ii f * ii (wy k v).length)) T2) = ii x + ii f * ii (wy k v).length from rfl, m3]
    have l4' : gX3_lowest (sX3_credit (sX3_tree (sX3_credit (sX3_tree (sX3_log s lg') T1) (ii x + ii f * ii (wy k v).length)) T2) (ii (x + f * (wy k v).length - drN a b m v))) = ii y := e3
    rw [l4', show gX3_credit (sX3_credit (sX3_tree (sX3_credit (sX3_tree (sX3_log s lg') T1) (ii x + ii f * ii (wy k v).length)) T2) (ii (x + f * (wy k v).length - drN a b m v))) = ii (x + f * (wy k v).length - drN a b m v) from rfl, m4, cv_bd_some, hs5]
  · unfold fX6_takeOut
    simp only [ii_l0, ii_l1, ii_l2, ii_l40, ii_l100, ii_neg]
    rw [cv_bd_eq b1, ii_sub]
    exact cv_bd_eq g2 _
  · rw [hs5]; exact a2
  · rw [hs5]; exact a3
  · rw [hs5]; exact h3.1
  · rw [show gX6_kinds (sX6_logMany (sX6_log M2 G') L') = gX6_kinds M from (ot_kinds b5.1 : gX6_kinds M2 = _), hs5]
    exact h4.1
  · rw [show gX6_values (sX6_logMany (sX6_log M2 G') L') = gX6_values M from (ot_values b5.1 : gX6_values M2 = _), hs5]
    exact h4.2
  · rw [hs5]; rfl
  · have q1 : gX6_credit M2 = _ := (b6 rfl).1
    show gX6_credit M2 = _
    rw [q1, e2, h3.2]
    unfold vC
    by_cases z : drF a b m v = true
    · rw [if_pos z, m1, m5]
    · rw [if_neg z, m1, no (by simpa using z)]; congr 1; omega
  · rw [hs5]; rfl
  · have q1 : gX6_lowest M2 = _ := (b6 rfl).2
    show gX6_lowest M2 = _
    rw [q1, e2, e4, h3.2]
    unfold vL
    by_cases z : drF a b m v = true
    · rw [if_pos z, m1, m2, m6]
    · rw [if_neg z, m2, m10 (no (by simpa using z))]
  · rw [hs5]; exact g3
  · rw [hs5]; exact g5
  · rw [show gX6_seenMany (sX6_logMany (sX6_log M2 G') L') = gX6_seenMany M from (ot_seenMany b5.1 : gX6_seenMany M2 = _), show gX6_sights (sX6_logMany (sX6_log M2 G') L') = gX6_sights M from (ot_sights b5.1 : gX6_sights M2 = _), hs5]
    exact hq
theorem buildAll_0 {T : SX4} {t : Tr} (h : ct T t) (hne : em t = true) : fX4_buildAll T = some (ii 0, T) := by
  obtain ⟨w, hb, -, hrt, -⟩ := id h
  unfold fX4_buildAll
  rw [hrt, em_eq w hne, rt_lf, if_pos (show ii (-1) = (-1 : Int32) from rfl)]
  rfl
theorem i0 : ¬ ii 1 = ii 0 := fun z => by rw [ii_eq (by omega) (by omega) (by omega) (by omega)] at z; omega
theorem i0' : ¬ (1 : Int32) = 0 := by decide
/-- FLATTEN -/
theorem flatten_eq {n : Int} (hn : 0 ≤ n ∧ n ≤ 10000) {C : SX5} {M : SX6} (h : Inv n C M) : ∃ r C' M', fX5_flatten C = some (r, C') ∧ fX6_flatten M = some (r, M') ∧ Inv (n + 1) C' M' := by
  obtain ⟨o, g, P, r, q', h1, h2, h3, h4, h5⟩ := h
  obtain ⟨v, a, b, m, d, c, f, x, y, xs, q, hs⟩ := id h4
  unfold fX5_flatten fX6_flatten
  rw [h1.1]
  cases o with
  | false =>
    refine ⟨ii (-103), C, M, ?_, ?_, Inv_keep (by omega) h1 h2 h3 h5 rfl rfl rfl rfl rfl rfl (sr_mono h4 (by omega))⟩
    · rw [if_pos fgF]; rfl
    · rw [cv_bd_eq (lacksF hs), if_neg z1_]; rfl
  | true =>
    obtain ⟨⟨t1, t2, t3, t4, t5, t6⟩, g2, g3, g4, ⟨e1, e2, e3, e4, e5, e6, e7⟩, ⟨l1, l2, l3, l4⟩, hq⟩ := id hs
    obtain ⟨hr, hf1, hf2⟩ := g2.1 rfl
    obtain ⟨w, hb, hz, -⟩ := id t1
    have s0 := sz_nonneg v w
    have gt := ig2 (t := 0) (Or.inl rfl)
    have many0 : gX6_many M (ii 0).toNatClampNeg = ii (sz v) := by
      obtain ⟨_, _, _, L, R, U, H, ha, _⟩ := t2
      exact ar_n ha (Or.inl rfl)
    have root0 : gX6_root M (ii 0).toNatClampNeg = ii (rt v) := by
      obtain ⟨_, _, _, L, R, U, H, ha, _⟩ := t2
      exact ar_ro ha (Or.inl rfl)
    obtain ⟨m1, m2, m3, m4, m5, m6, m7, m8, m9, m10⟩ := mny (x := x) (y := y) (f := 0) (w := 0) (N := sz v) hn e5 e6 e7 (by omega) (by omega) (by omega)
    rw [show x + 0 * 0 - sz v = x - sz v by omega] at m4 m7 m8 m9 m10
    rw [if_neg fgT, cv_bd_eq (lacksT hs), if_pos z0_]
    simp only [ii_l0, ii_l1, ii_l2, ii_l40, ii_l100, ii_neg, cv_lt_eq]
    rw [cv_gd_pos gt, many0]
    have hnl : gX4_number (gX3_tree (gX5_now C)) = ii (sz v) := t1.2.2.2.2.2.2
    by_cases z : em v = true
    · have z0 := (em_sz w).mp z
      have zl : ii (sz v) ≤ ii 0 := by rw [z0]; exact (ii_le (by omega) (by omega) (by omega) (by omega)).mpr (by omega)
      rw [if_pos zl, cv_bd_some, cv_gd_pos gt, many0, cv_bd_eq (buildAll_0 t1 z)]
      unfold fX3_settle
      simp only [cv_lt_eq, cv_bd_some]
      obtain ⟨C', hC'⟩ : ∃ C', C' = sX5_now (sX5_now C (sX3_tree (gX5_now C) (gX3_tree (gX5_now C)))) (sX3_lowest (sX3_credit (gX5_now (sX5_now C (sX3_tree (gX5_now C) (gX3_tree (gX5_now C))))) (gX3_credit (gX5_now (sX5_now C (sX3_tree (gX5_now C) (gX3_tree (gX5_now C))))) - ii 0)) (cv_min (gX3_lowest (sX3_credit (gX5_now (sX5_now C (sX3_tree (gX5_now C) (gX3_tree (gX5_now C))))) (gX3_credit (gX5_now (sX5_now C (sX3_tree (gX5_now C) (gX3_tree (gX5_now C))))) - ii 0))) (gX3_credit (sX3_credit (gX5_now (sX5_now C (sX3_tree (gX5_now C) (gX3_tree (gX5_now C))))) (gX3_credit (gX5_now (sX5_now C (sX3_tree (gX5_now C) (gX3_tree (gX5_now C))))) - ii 0))))) := ⟨_, rfl⟩
      refine ⟨ii (sz v), C', M, ?_, rfl, ?_⟩
      · rw [← hC', hC']
        show some (gX4_number (gX3_tree (gX5_now C)), _) = _
        rw [hnl]
      · refine Inv_keep (by omega) h1 h2 h3 h5 (by rw [hC']; rfl) (by rw [hC']; rfl) (by rw [hC']; rfl) (by rw [hC']; rfl) (by rw [hC']; rfl) rfl ?_
        refine sr_mono (n := n) ⟨v, a, b, m, d, c, f, x, y, xs, q, ⟨?_, t2, ?_, t4, t5, t6⟩, g2, ⟨?_, g3.2⟩, ?_, ⟨?_, e2, ?_, e4, e5, e6, e7⟩, ?_, ?_⟩ (by omega)
        · rw [hC']; exact t1
        · rw [hC']; exact t3
        · rw [hC']; exact g3.1
        · rw [hC']; exact g4
        · rw [hC']
          show gX3_credit (gX5_now C) - ii 0 = _
          rw [e1, ii_sub]; congr 1; omega
        · rw [hC']
          show cv_min (gX3_lowest (gX5_now C)) (gX3_credit (gX5_now C) - ii 0) = _
          rw [e1, e3, ii_sub, cv_min_ii (by omega) (by omega) (by omega) (by omega)]; congr 1; omega
        · rw [hC']; exact ⟨l1, l2, l3, l4⟩
        · rw [hC']; exact hq
    · have z0 : ¬ sz v = 0 := fun y => z ((em_sz w).mpr y)
      have zl : ¬ ii (sz v) ≤ ii 0 := fun y => by rw [ii_le (by omega) (by omega) (by omega) (by omega)] at y; omega
      obtain ⟨M', b1, b2, b3, b4, b5, b6⟩ := build6 t2 (Or.inl rfl) (rt_mem w (em_ne w z)) t4
      rw [(gr_top _ w z).1, (gr_top (fk v) w z).2] at b2
      rw [(gr_top (fk v) w z).2] at b3 b4 b6
      obtain ⟨T', a1, a2, a3⟩ := buildAll_eq t1 t3 z
      have many1 : gX6_many M' (ii 0).toNatClampNeg = ii (sz v) := by
        obtain ⟨_, _, _, L, R, U, H, ha, _⟩ := b2
        rw [ar_n ha (Or.inl rfl), fk_sz w hz]
      rw [if_neg zl, cv_gd_pos gt, root0, cv_bd_eq b1, cv_bd_some, cv_gd_pos gt, many1, cv_bd_eq a1]
      simp only []
      unfold fX3_settle
      simp only [cv_lt_eq, cv_bd_some]
      rw [show gX3_credit (gX5_now (sX5_now C (sX3_tree (gX5_now C) T'))) = gX3_credit (gX5_now C) from rfl, e1, ii_sub]
      rw [show gX3_lowest (sX3_credit (gX5_now (sX5_now C (sX3_tree (gX5_now C) T'))) (ii (x - sz v))) = gX3_lowest (gX5_now C) from rfl, e3, show gX3_credit (sX3_credit (gX5_now (sX5_now C (sX3_tree (gX5_now C) T'))) (ii (x - sz v))) = ii (x - sz v) from rfl, m4]
      obtain ⟨C', hC'⟩ : ∃ C', C' = sX5_now (sX5_now C (sX3_tree (gX5_now C) T')) (sX3_lowest (sX3_credit (gX5_now (sX5_now C (sX3_tree (gX5_now C) T'))) (ii (x - sz v))) (ii (min y (x - sz v)))) := ⟨_, rfl⟩
      refine ⟨ii (sz v), C', M', ?_, rfl, ?_⟩
      · rw [← hC', hC']
        show some (gX4_number T', _) = _
        rw [a2.2.2.2.2.2.2, fk_sz w hz]
      · refine Inv_keep (by omega) h1 h2 h3 h5 (by rw [hC']; rfl) (by rw [hC']; rfl) (by rw [hC']; rfl) (by rw [hC']; rfl) (by rw [hC']; rfl) (ot_oq b5.1) ?_
        refine ⟨fk v, a, b, m, d + 1, c + sz v, f, x - sz v, min y (x - sz v), xs, q, ⟨?_, b2, ?_, b3, ⟨(ot_ratioA b5.1).trans t5.1, (ot_ratioB b5.1).trans t5.2⟩, t6⟩, ⟨g2.1, fun z => by cases z⟩, ⟨?_, (ot_fee b5.1).trans g3.2⟩, ?_, ⟨?_, ?_, ?_, ?_, m7, m8, m9⟩, ?_, ?_⟩
        · rw [hC']; exact a2
        · rw [hC']; exact a3
        · rw [hC']; exact g3.1
        · rw [hC', ot_kinds b5.1, ot_values b5.1]; exact g4
        · rw [hC']; rfl
        · rw [(b6 rfl).1, e2]; unfold pyC; rw [ii_add]; congr 1; omega
        · rw [hC']; rfl
        · rw [(b6 rfl).2, e2, e4]
          rw [show x + 0 * 0 = x by omega, show x - sz v = x + 0 * 0 - sz v by omega] at m6
          rw [m6]; congr 2; omega
        · rw [hC', ot_logMany b5.1, ot_log b5.1]
          refine ⟨l1, l2, l3, fun t => ?_⟩
          have := l4 t
          exact ⟨fun k => by rw [this.1 k]; simp only [fk_ks w hz], by rw [this.2, fk_sz w hz]⟩
        · rw [hC', ot_seenMany b5.1, ot_sights b5.1]; exact hq
