/-! both: the same row by another ratio, draws by a seed -/
theorem rat_yes {a b : Int} (h : rat a b) : fX5_isRatio (ii a) (ii b) = some (ii 1) ∧ fX6_isRatio (ii a) (ii b) = some (ii 1) := by
  rcases h with ⟨rfl, rfl⟩ | ⟨rfl, rfl⟩ | ⟨rfl, rfl⟩ | ⟨rfl, rfl⟩ <;> exact ⟨rfl, rfl⟩
theorem rat_no5 {a b : Int} (a0 : -2147483648 ≤ a) (a1 : a < 2147483648) (b0 : -2147483648 ≤ b) (b1 : b < 2147483648) (h : ¬ rat a b) : fX5_isRatio (ii a) (ii b) = some (ii 0) := by
  unfold rat at h
  unfold fX5_isRatio
  by_cases c1 : a < 2
  · rw [if_pos (show ii a < (2 : Int32) from p_lt (c := 2) a0 a1 (by omega) (by omega) c1)]; rfl
  · rw [if_neg (show ¬ ii a < (2 : Int32) from n_lt (c := 2) a0 a1 (by omega) (by omega) c1)]
    by_cases c2 : b ≤ a
    · rw [if_pos (p_le b0 b1 a0 a1 c2)]; rfl
    · rw [if_neg (n_le b0 b1 a0 a1 c2)]
      by_cases c3 : 5 < b
      · rw [if_pos (show (5 : Int32) < ii b from p_lt (k := 5) (by omega) (by omega) b0 b1 c3)]; rfl
      · rw [if_neg (show ¬ (5 : Int32) < ii b from n_lt (k := 5) (by omega) (by omega) b0 b1 c3), ii_l2, ii_mul, if_pos (p_le (by omega) (by omega) b0 b1 (by omega))]; rfl
theorem rat_no6 {a b : Int} (a0 : -1000 ≤ a) (a1 : a < 1000) (b0 : -2147483648 ≤ b) (b1 : b < 2147483648) (h : ¬ rat a b) : fX6_isRatio (ii a) (ii b) = some (ii 0) := by
  unfold rat at h
  unfold fX6_isRatio
  rw [cv_bd_eq (in6 (lo := 1) (hi := 5) b0 b1 rfl rfl)]
  by_cases c1 : 1 ≤ b ∧ b ≤ 5
  · rw [if_pos c1, if_neg z1_]
    by_cases c2 : a ≤ 0
    · rw [if_pos (show ii a ≤ (0 : Int32) from p_le (c := 0) (by omega) (by omega) (by omega) (by omega) c2)]; rfl
    · rw [if_neg (show ¬ ii a ≤ (0 : Int32) from n_le (c := 0) (by omega) (by omega) (by omega) (by omega) c2)]
      by_cases c3 : b ≤ a
      · rw [if_pos (p_le b0 b1 (by omega) (by omega) c3)]; rfl
      · rw [if_neg (n_le b0 b1 (by omega) (by omega) c3), ii_l2, ii_mul, if_pos (p_le (by omega) (by omega) b0 b1 (by omega))]; rfl
  · rw [if_neg c1, if_pos z0_]; rfl
/-- the class, what is only tried aside -/
def ctr (C C' : SX5) : Prop := ∃ T, C' = sX5_trial C T
section
variable {n : Int} {C : SX5} {M : SX6}
theorem Inv_tr {C' : SX5} {M' : SX6} (h : Inv n C M) (hc : ctr C C') (hs : sc M M') : Inv n C' M' := by
  obtain ⟨T, rfl⟩ := hc
  exact Inv_sc h hs rfl rfl rfl rfl rfl (fun _ o z => z)
/-- a tree of each side that go on alike -/
def tw (T : SX4) (M : SX6) (w : Tr) (a b m d c D K : Int) : Prop := ct T w ∧ cn T a b m (D + d) (K + c) ∧ rc M 1 w ∧ nm M 1 m d c ∧ ab M 1 a b ∧ (0 ≤ m ∧ m ≤ 40)
theorem tw_put {T : SX4} {w : Tr} {a b m d c D K : Int} (hr : rat a b) (h : tw T M w a b m d c D K) {k : Int} (k0 : 0 ≤ k) (k1 : k < 100) (hk : k ∉ ks w) (hz : sz w ≤ 39) : ∃ T' M', fX4_turn T (ii k) = some T' ∧ fX6_enter M (ii 1) (ii k) = some M' ∧ hi_ 1 M M' ∧ tw T' M' (adT a b w k) a b (max m (sz w + 1)) (d + adD a b w k) (c + adN a b w k) D K := by
  obtain ⟨h1, h2, h3, h4, h5, h6⟩ := h
  obtain ⟨T', e1, e2, e3⟩ := turn_put h1 hr h2 h6 k0 k1 hk hz
  obtain ⟨M', b1, b2, b3, b4, b5, -⟩ := enter6 h3 (Or.inr rfl) h5 hr k0 k1 hk hz h4 h6
  have := sz_nonneg w h1.1
  rw [Int.add_assoc, Int.add_assoc] at e3
  exact ⟨T', M', e1, b1, b5, e2, e3, b2, b3, ab_ot b5.1 h5, by omega, by omega⟩
theorem tw_take {T : SX4} {w : Tr} {a b m d c D K : Int} (hr : rat a b) (h : tw T M w a b m d c D K) {k : Int} (hk : k ∈ ks w) : ∃ T' M', fX4_turn T (ii k) = some T' ∧ fX6_leave M (ii 1) (ii k) = some M' ∧ hi_ 1 M M' ∧ tw T' M' (drT a b m w k) a b (drO a b m w) (d + drD a b m w) (c + drN a b m w) D K := by
  obtain ⟨h1, h2, h3, h4, h5, h6⟩ := h
  obtain ⟨T', e1, e2, e3⟩ := turn_take h1 hr h2 h6 hk
  obtain ⟨M', b1, b2, b3, b4, b5, -⟩ := leave6 h3 (Or.inr rfl) h5 hr hk h4 h6
  have s1 : 1 ≤ sz w := by
    have h0 := sz_ks w h1.1
    have : 0 < (ks w).length := List.length_pos_of_mem hk
    omega
  rw [Int.add_assoc, Int.add_assoc] at e3
  exact ⟨T', M', e1, b1, b5, e2, e3, b2, b3, ab_ot b5.1 h5, drO_in h6 h1.2.2.1 s1⟩
theorem rep_L {a b D K : Int} (hr : rat a b) {u : Int32} {xs : List Int} (l1 : gX0_length (gX3_log (gX5_now C)) = ii xs.length) : ∀ (j n' i : Nat) (T : SX4) (M : SX6) (w : Tr) (m d c : Int), i + j = xs.length → gX6_logMany M = ii xs.length → lgR (gX0_keys (gX3_log (gX5_now C))) (gX6_log M) xs → sm w (ts (xs.take i)) → tw T M w a b m d c D K → j < n' →
    ∃ T' M' w' m' d' c', fX5_replay_L42 u n' (ii i) (sX5_trial C T) = some (sX5_trial C T') ∧ fX6_replayOf_L18 u n' (ii i) M = some M' ∧ hi_ 1 M M' ∧ tw T' M' w' a b m' d' c' D K
  | 0, n', i, T, M, w, m, d, c, e, l2, l3, hsm, ht, hn => by
    obtain ⟨n', rfl⟩ : ∃ m, n' = m + 1 := ⟨n' - 1, by omega⟩
    have l0 := l3.1
    refine ⟨T, M, w, m, d, c, ?_, ?_, hi_refl 1 M, ht⟩
    · unfold fX5_replay_L42
      rw [show gX0_length (gX3_log (gX5_now (sX5_trial C T))) = ii xs.length from l1, if_pos (p_le (by omega) (by omega) (by omega) (by omega) (by omega))]
    · unfold fX6_replayOf_L18
      rw [l2, if_pos (p_le (by omega) (by omega) (by omega) (by omega) (by omega))]
  | j + 1, n', i, T, M, w, m, d, c, e, l2, l3, hsm, ht, hn => by
    obtain ⟨n', rfl⟩ : ∃ m, n' = m + 1 := ⟨n' - 1, by omega⟩
    have l0 := l3.1
    obtain ⟨a1, a2, a3, a4⟩ := l3.2 i (by omega)
    obtain ⟨x, hx⟩ : ∃ x, x = xs.getD i 0 := ⟨_, rfl⟩
    rw [← hx] at a1 a2 a3 a4
    have g := ii_in (k := (i : Int)) (n := 60) (by omega) (by omega) (by omega)
    have tk : xs.take (i + 1) = xs.take i ++ [x] := by rw [hx]; exact take_gd (by omega)
    have hw := ht.1.1
    have hb := ht.1.2.1
    have hz := ht.1.2.2.1
    have step : ∃ T1 M1 w1 m1 d1 c1, fX4_turn T (ii x) = some T1 ∧ (if ii 0 ≤ gX6_log M (ii i).toNatClampNeg then cv_gd (0 ≤ (ii i).toInt ∧ (ii i).toInt < 60) (cv_bd (fX6_enter M (ii 1) (gX6_log M (ii i).toNatClampNeg)) fun r11 => some r11) else cv_gd (0 ≤ (ii i).toInt ∧ (ii i).toInt < 60) (cv_bd (fX6_leave M (ii 1) (ii (-1) - gX6_log M (ii i).toNatClampNeg)) fun r13 => some r13)) = some M1 ∧ hi_ 1 M M1 ∧ tw T1 M1 w1 a b m1 d1 c1 D K ∧ sm w1 (tg (ts (xs.take i)) x) := by
      rw [qX6_log M (by omega) (by omega), cv_gd_pos g, cv_gd_pos g]
      by_cases z : x ∈ ks w
      · have e1 := a3 (by rw [hsm.1 x]; exact decide_eq_true z)
        obtain ⟨T1, M1, f1, f2, f3, f4⟩ := tw_take hr ht z
        refine ⟨T1, M1, _, _, _, _, f1, ?_, f3, f4, sm_take hsm z (dr_ks hw hb z hz) (dr_sz hw hb z hz)⟩
        rw [e1, if_neg (n_le (by omega) (by omega) (by omega) (by omega) (by omega)), ii_sub, show (-1 : Int) - (-1 - x) = x by omega, cv_bd_eq f2]
      · obtain ⟨e1, e2⟩ := a4 (by rw [hsm.1 x]; exact fun t => z (of_decide_eq_true t))
        rw [hsm.2] at e2
        obtain ⟨T1, M1, f1, f2, f3, f4⟩ := tw_put hr ht a1.1 a1.2 z e2
        refine ⟨T1, M1, _, _, _, _, f1, ?_, f3, f4, sm_put hsm z (ad_ks hw hb a1.1 a1.2 z e2) (ad_sz hw hb a1.1 a1.2 z e2)⟩
        rw [e1, if_pos (p_le (by omega) (by omega) (by omega) (by omega) (by omega)), cv_bd_eq f2]
    obtain ⟨T1, M1, w1, m1, d1, c1, f1, f2, f3, f4, f5⟩ := step
    rw [← ts_app, ← tk] at f5
    obtain ⟨T', M', w', m', d', c', r1, r2, r3, r4⟩ := rep_L hr (u := u) l1 j n' (i + 1) T1 M1 w1 m1 d1 c1 (by omega) ((ot_logMany f3.1).trans l2) (by rw [ot_log f3.1]; exact l3) f5 f4 (by omega)
    refine ⟨T', M', w', m', d', c', ?_, ?_, hi_trans f3 r3, r4⟩
    · unfold fX5_replay_L42
      simp only [ii_l0, ii_l1, ii_l2, ii_l40, ii_l100, ii_neg, cv_lt_eq, ii_add]
      rw [show gX0_length (gX3_log (gX5_now (sX5_trial C T))) = ii xs.length from l1, if_neg (n_le (by omega) (by omega) (by omega) (by omega) (by omega)), cv_gd_pos g, show gX0_keys (gX3_log (gX5_now (sX5_trial C T))) = gX0_keys (gX3_log (gX5_now C)) from rfl, qX0_keys _ (by omega) (by omega), a2, show gX5_trial (sX5_trial C T) = T from rfl, cv_bd_eq f1]
      exact r1
    · unfold fX6_replayOf_L18
      simp only [ii_l0, ii_l1, ii_l2, ii_l40, ii_l100, ii_neg, cv_lt_eq, ii_add]
      rw [l2, if_neg (n_le (by omega) (by omega) (by omega) (by omega) (by omega)), cv_gd_pos g, cv_bd_eq f2]
      exact r2
theorem replayOf6 {v : Tr} {a b m d c f x y : Int} {xs : List Int} {q : Nat} (hs : sq n true (gX5_now C) M v a b m d c f x y xs q) {a' b' : Int} (hr : rat a' b') (u : Int32) :
    ∃ r C' M', cv_bd (fX4_begin (gX5_trial C) (ii a') (ii b')) (fun r6 => cv_lt (sX5_trial C r6) fun s7 => cv_bd (fX5_replay_L42 u 256 (0 : Int32) s7) fun j13 => if u = 0 then some ((gX4_cost (gX5_trial j13)), j13) else cv_bd (fX4_tall (gX5_trial j13)) fun r16 => cv_lt (sX5_trial j13 r16.2) fun s17 => some (r16.1, s17)) = some (r, C') ∧ fX6_replayOf M (ii a') (ii b') u = some (r, M') ∧ ctr C C' ∧ sc M M' := by
  obtain ⟨-, -, -, -, -, ⟨l1, l2, l3, l4⟩, -⟩ := hs
  obtain ⟨T0, c1, c2, c3⟩ := begin_eq (gX5_trial C) a' b'
  obtain ⟨M0, d1, d2, d3, d4⟩ := empty6 M (Or.inr rfl)
  obtain ⟨M1, hM1⟩ : ∃ M1, M1 = sX6_thenB (sX6_thenA M0 (ii a')) (ii b') := ⟨_, rfl⟩
  have hab : ab M1 1 a' b' := by rw [hM1]; exact ⟨rfl, rfl⟩
  have hsc : sc M M1 := by
    have s0 := hi_sc d4
    rw [hM1]
    exact ⟨s0.1, s0.2.1, s0.2.2.1, s0.2.2.2.1, s0.2.2.2.2.1, s0.2.2.2.2.2.1, s0.2.2.2.2.2.2.1, s0.2.2.2.2.2.2.2.1, s0.2.2.2.2.2.2.2.2⟩
  have ht : tw T0 M1 lf a' b' 0 0 0 0 0 := ⟨c2, c3, by rw [hM1]; exact d2, by rw [hM1]; exact d3, hab, by omega, by omega⟩
  obtain ⟨T', M', w', m', d', c', r1, r2, r3, r4⟩ := rep_L (C := C) hr (u := u) l1 xs.length 256 0 T0 M1 lf 0 0 0 (by omega) (by rw [hsc.2.2.2.2.2.2.1]; exact l2) (by rw [hsc.2.2.2.2.2.1]; exact l3) ⟨fun k => by rw [List.take_zero, ks_lf]; rfl, by rw [List.take_zero, sz_lf]; rfl⟩ ht (by have := l3.1; omega)
  have hsc' := sc_trans hsc (hi_sc r3)
  rw [cv_bd_eq c1, cv_lt_eq]
  unfold fX6_replayOf
  rw [show (1 : Int32) = ii 1 from rfl, cv_bd_eq d1, cv_lt_eq, cv_lt_eq, ← hM1]
  have e1 := cv_bd_eq r1 (fun j13 : SX5 => if u = 0 then some ((gX4_cost (gX5_trial j13)), j13) else cv_bd (fX4_tall (gX5_trial j13)) fun r16 => cv_lt (sX5_trial j13 r16.2) fun s17 => some (r16.1, s17))
  have e2 := cv_bd_eq r2 (fun j14 : SX6 => if u = 0 then cv_gd (0 ≤ (ii 1).toInt ∧ (ii 1).toInt < 2) (some (gX6_cost j14 (ii 1).toNatClampNeg, j14)) else cv_bd (fX6_tall j14 (ii 1)) fun r17 => some (r17, j14))
  by_cases z : u = 0
  · rw [if_pos z] at e1 e2
    rw [cv_gd_pos (ig2 (t := 1) (Or.inr rfl)), r4.2.2.2.1.2.2] at e2
    refine ⟨ii c', sX5_trial C T', M', e1.trans ?_, e2, ⟨T', rfl⟩, hsc'⟩
    show some (gX4_cost T', _) = _
    rw [r4.2.1.2.2.2.2, Int.zero_add]
  · rw [if_neg z] at e1 e2
    obtain ⟨f, et⟩ := tall_eq r4.1
    rw [cv_bd_eq (tall6 r4.2.2.1 (Or.inr rfl))] at e2
    refine ⟨ii (tl w'), sX5_trial C (sX4_way T' f), M', e1.trans ?_, e2, ⟨_, rfl⟩, hsc'⟩
    show cv_bd (fX4_tall T') (fun r16 => cv_lt (sX5_trial (sX5_trial C T') r16.2) fun s17 => some (r16.1, s17)) = _
    rw [cv_bd_eq et]
    rfl
theorem B_replay (hn : 0 ≤ n ∧ n ≤ 10000) (h : Inv n C M) (a1 a2 a3 : Int32) : ∃ r C' M', fX5_replay C a1 a2 a3 = some (r, C') ∧ fX6_replay M a1 a2 a3 = some (r, M') ∧ Inv n C' M' := by
  obtain ⟨k, rfl, k0, k1⟩ := ii_all a1
  obtain ⟨j, rfl, j0, j1⟩ := ii_all a2
  obtain ⟨u, rfl, u0, u1⟩ := ii_all a3
  have hI := h
  obtain ⟨o, g_, P, r, q', h1, h2, h3, ⟨v, a, b, m, d, c, f, x, y, xs, q, hs⟩, h5⟩ := h
  unfold fX5_replay fX6_replay
  rw [cv_bd_eq (in6 (lo := 1) (hi := 5) k0 k1 rfl rfl), cv_bd_eq (in6 (lo := 0) (hi := 1) u0 u1 rfl rfl), h1.1]
  by_cases hr : rat k j
  · have hr' : 2 ≤ k ∧ k ≤ 4 ∧ 3 ≤ j ∧ j ≤ 5 := by unfold rat at hr; omega
    rw [cv_bd_eq (rat_yes hr).1, if_neg z1_, if_pos (show 1 ≤ k ∧ k ≤ 5 by omega), if_neg z1_, cv_bd_eq (rat_yes hr).2, if_neg z1_]
    by_cases c2 : 0 ≤ u ∧ u ≤ 1
    · rw [if_neg (show ¬ ii u < (0 : Int32) from n_lt (c := 0) u0 u1 (by omega) (by omega) (by omega)), if_pos (show ii u ≤ (1 : Int32) from p_le (c := 1) u0 u1 (by omega) (by omega) c2.2), if_pos c2, if_neg z1_]
      cases o with
      | false =>
        rw [if_pos fgF, cv_bd_eq (lacksF hs), if_neg z1_]
        exact ⟨_, C, M, rfl, rfl, hI⟩
      | true =>
        obtain ⟨r, C', M', e1, e2, e3, e4⟩ := replayOf6 hs hr (ii u)
        rw [if_neg fgT, cv_bd_eq (lacksT hs), if_pos z0_, cv_bd_eq e2]
        exact ⟨r, C', M', e1, rfl, Inv_tr hI e3 e4⟩
    · rw [if_neg c2, if_pos z0_]
      refine ⟨_, C, M, ?_, rfl, hI⟩
      by_cases z : u < 0
      · rw [if_pos (show ii u < (0 : Int32) from p_lt (c := 0) u0 u1 (by omega) (by omega) z)]
      · rw [if_neg (show ¬ ii u < (0 : Int32) from n_lt (c := 0) u0 u1 (by omega) (by omega) z), if_neg (show ¬ ii u ≤ (1 : Int32) from n_le (c := 1) u0 u1 (by omega) (by omega) (by omega))]
  · rw [cv_bd_eq (rat_no5 k0 k1 j0 j1 hr), if_pos z0_]
    refine ⟨_, C, M, rfl, ?_, hI⟩
    by_cases c1 : 1 ≤ k ∧ k ≤ 5
    · rw [if_pos c1, if_neg z1_, cv_bd_eq (rat_no6 (by omega) (by omega) j0 j1 hr), if_pos z0_]
    · rw [if_neg c1, if_pos z0_]
/-! draws -/
abbrev ll (k : Int) : Int64 := Int64.ofInt k
theorem ll_toInt {k : Int} (h1 : 0 ≤ k) (h2 : k < 4611686018427387904 * 2) : (ll k).toInt = k := Int64.toInt_ofInt_of_le (by omega) (by omega)
theorem ll_div {a b : Int} (h1 : 0 ≤ a) (h2 : a < 4611686018427387904 * 2) (h3 : 0 < b) (h4 : b < 4611686018427387904 * 2) : ll a / ll b = ll (a / b) := by
  rw [← Int64.toInt_inj, Int64.toInt_div_of_ne_right _ _ (by
    intro h
    have := congrArg Int64.toInt h
    rw [ll_toInt (by omega) h4] at this
    have h5 : (-1 : Int64).toInt = -1 := by decide
    omega), ll_toInt h1 h2, ll_toInt (by omega) h4, Int.tdiv_eq_ediv_of_nonneg h1]
  have h6 : a / b ≤ a := Int.ediv_le_self b h1
  have h7 : 0 ≤ a / b := Int.ediv_nonneg h1 (by omega)
  rw [ll_toInt h7 (by omega)]
theorem ll_and {z : Int} (h1 : 0 ≤ z) (h2 : z < 4611686018427387904 * 2) : ll z &&& ll 2147483647 = ll (z % 2147483648) := by
  apply Int64.toBitVec.inj
  rw [Int64.toBitVec_and, Int64.toBitVec_ofInt, Int64.toBitVec_ofInt, Int64.toBitVec_ofInt]
  apply BitVec.eq_of_toNat_eq
  rw [BitVec.toNat_and, BitVec.toNat_ofInt, BitVec.toNat_ofInt, BitVec.toNat_ofInt]
  obtain ⟨t, rfl⟩ : ∃ t : Nat, z = t := ⟨z.toNat, by omega⟩
  have e1 : (((t : Int) % ((2 ^ 64 : Nat) : Int))).toNat = t := by omega
  have e2 : (((2147483647 : Int) % ((2 ^ 64 : Nat) : Int))).toNat = 2 ^ 31 - 1 := by decide
  have e3 : ((((t : Int) % 2147483648) % ((2 ^ 64 : Nat) : Int))).toNat = t % 2 ^ 31 := by omega
  rw [e1, e2, e3, Nat.and_two_pow_sub_one_eq_mod]
theorem ll_32 {k : Int} : (ll k).toInt32 = ii k := Int64.toInt32_ofInt
theorem ii_64 {k : Int} (h1 : 0 ≤ k) (h2 : k < 2147483648) : (ii k).toInt64 = ll k := Int32.toInt64_ofInt (by show (-2147483648 : Int) ≤ k; omega) (by show k ≤ (2147483647 : Int); omega)
/-- the next seed, the next key -/
def sd (s : Int) : Int := (1103515245 * s + 12345) % 2147483648
def dk (s : Int) : Int := sd s / 65536 % 100
theorem sd_in (s : Int) : 0 ≤ sd s ∧ sd s < 2147483648 := by unfold sd; omega
theorem dk_in (s : Int) : 0 ≤ dk s ∧ dk s < 100 := by unfold dk; omega
theorem seed5 {s : Int} (h1 : 0 ≤ s) (h2 : s < 2147483648) : ((1103515245 : Int64) * ll s + (12345 : Int64)) - ((1103515245 : Int64) * ll s + (12345 : Int64)) / (2147483648 : Int64) * (2147483648 : Int64) = ll (sd s) := by
  have e : (1103515245 : Int64) * ll s + (12345 : Int64) = ll (1103515245 * s + 12345) := by
    rw [show (1103515245 : Int64) = ll 1103515245 from rfl, show (12345 : Int64) = ll 12345 from rfl, ← Int64.ofInt_mul, ← Int64.ofInt_add]
  rw [e, show (2147483648 : Int64) = ll 2147483648 from rfl, ll_div (by omega) (by omega) (by omega) (by omega), ← Int64.ofInt_mul, ← Int64.ofInt_sub]
  congr 1
  unfold sd
  omega
theorem key5 {s : Int} : ((ll (sd s) / (65536 : Int64) - ll (sd s) / (65536 : Int64) / (100 : Int64) * (100 : Int64))).toInt32 = ii (dk s) := by
  have := sd_in s
  rw [show (65536 : Int64) = ll 65536 from rfl, show (100 : Int64) = ll 100 from rfl, ll_div (by omega) (by omega) (by omega) (by omega), ll_div (by omega) (by omega) (by omega) (by omega), ← Int64.ofInt_mul, ← Int64.ofInt_sub, ll_32]
  congr 1
  unfold dk
  omega
theorem draw6 {s : Int} (h1 : 0 ≤ s) (h2 : s < 2147483648) (hs : gX6_seedNow M = ii s) : fX6_draw M (ii 100) = some (ii (dk s), sX6_seedNow M (ii (sd s))) := by
  have b := sd_in s
  have e : (((1103515245 : Int64) * (ii s).toInt64 + (12345 : Int64)) &&& (2147483647 : Int64)).toInt32 = ii (sd s) := by
    rw [ii_64 h1 h2, show (1103515245 : Int64) = ll 1103515245 from rfl, show (12345 : Int64) = ll 12345 from rfl, show (2147483647 : Int64) = ll 2147483647 from rfl, ← Int64.ofInt_mul, ← Int64.ofInt_add, ll_and (by omega) (by omega), ll_32]
    rfl
  unfold fX6_draw
  rw [hs, e, cv_lt_eq, cv_gd_pos (show ¬ ii 100 = 0 by decide), show gX6_seedNow (sX6_seedNow M (ii (sd s))) = ii (sd s) from rfl, ii_l65536, ii_div (by omega) (by omega) (by omega) (by omega), ii_div (by omega) (by omega) (by omega) (by omega), ii_mul, ii_sub]
  congr 3
  unfold dk
  omega
theorem drw_L {a b D K : Int} (hr : rat a b) {u w3 : Int} (u0 : -2147483648 ≤ u) (u1 : u ≤ 60) : ∀ (j n' : Nat) (i s : Int) (T : SX4) (M : SX6) (w : Tr) (m d c : Int), 0 ≤ i → i + j = u → 0 ≤ s → s < 2147483648 → gX6_seedNow M = ii s → tw T M w a b m d c D K → j < n' →
    ∃ T' M' w' m' d' c' s', fX5_drawn_L58 (ii u) (ii w3) n' (ll s) (ii i) (sX5_trial C T) = some (ll s', sX5_trial C T') ∧ fX6_drawn_L53 (ii u) (ii w3) n' (ii i) M = some M' ∧ sc M M' ∧ tw T' M' w' a b m' d' c' D K ∧ gX6_seedNow M' = ii s'
  | 0, n', i, s, T, M, w, m, d, c, i0, e, s0, s1, hs, ht, hn => by
    obtain ⟨n', rfl⟩ : ∃ m, n' = m + 1 := ⟨n' - 1, by omega⟩
    refine ⟨T, M, w, m, d, c, s, ?_, ?_, sc_refl M, ht, hs⟩
    · unfold fX5_drawn_L58
      rw [if_pos (p_le (by omega) (by omega) (by omega) (by omega) (by omega))]
    · unfold fX6_drawn_L53
      rw [if_pos (p_le (by omega) (by omega) (by omega) (by omega) (by omega))]
  | j + 1, n', i, s, T, M, w, m, d, c, i0, e, s0, s1, hs, ht, hn => by
    obtain ⟨n', rfl⟩ : ∃ m, n' = m + 1 := ⟨n' - 1, by omega⟩
    have db := dk_in s
    have sb := sd_in s
    obtain ⟨M0, hM0⟩ : ∃ M0, M0 = sX6_seedNow M (ii (sd s)) := ⟨_, rfl⟩
    have ht0 : tw T M0 w a b m d c D K := by rw [hM0]; exact ht
    have sc0 : sc M M0 := by rw [hM0]; exact ⟨rfl, zo_refl M, zn_refl M, rfl, rfl, rfl, rfl, rfl, rfl, rfl⟩
    have hd := draw6 s0 s1 hs
    rw [← hM0] at hd
    have sd0 : gX6_seedNow M0 = ii (sd s) := by rw [hM0]; rfl
    have gt := ig2 (t := 1) (Or.inr rfl)
    have z0 := sz_nonneg w ht.1.1
    have hz := ht.1.2.2.1
    have step : ∃ T1 M1 w1 m1 d1 c1, fX4_turn T (ii (dk s)) = some T1 ∧ (if gX6_there M0 (ii (100 + dk s)).toNatClampNeg = ii 1 then cv_bd (fX6_leave M0 (ii 1) (ii (dk s))) (fun r20 => some r20) else cv_gd (0 ≤ (ii 1).toInt ∧ (ii 1).toInt < 2) (if ii 40 ≤ gX6_many M0 (ii 1).toNatClampNeg then some M0 else cv_bd (fX6_enter M0 (ii 1) (ii (dk s))) fun r19 => some r19)) = some M1 ∧ hi_ 1 M0 M1 ∧ tw T1 M1 w1 a b m1 d1 c1 D K := by
      rw [th6b ht0.2.2.1 db.1 db.2, cv_gd_pos gt, many6b ht0.2.2.1]
      by_cases z : dk s ∈ ks w
      · obtain ⟨T1, M1, f1, f2, f3, f4⟩ := tw_take hr ht0 z
        refine ⟨T1, M1, _, _, _, _, f1, ?_, f3, f4⟩
        rw [if_pos z, if_pos rfl, cv_bd_eq f2]
      · rw [if_neg z, if_neg (show ¬ ii 0 = ii 1 by decide)]
        by_cases y : sz w = 40
        · rw [if_pos (p_le (by omega) (by omega) (by omega) (by omega) (by omega))]
          exact ⟨T, M0, _, _, _, _, turn_full ht.1 db.1 db.2 z y, rfl, hi_refl 1 M0, ht0⟩
        · obtain ⟨T1, M1, f1, f2, f3, f4⟩ := tw_put hr ht0 db.1 db.2 z (by omega)
          refine ⟨T1, M1, _, _, _, _, f1, ?_, f3, f4⟩
          rw [if_neg (n_le (by omega) (by omega) (by omega) (by omega) (by omega)), cv_bd_eq f2]
    obtain ⟨T1, M1, w1, m1, d1, c1, f1, f2, f3, f4⟩ := step
    obtain ⟨T', M', w', m', d', c', s', r1, r2, r3, r4, r5⟩ := drw_L hr (w3 := w3) u0 u1 j n' (i + 1) (sd s) T1 M1 w1 m1 d1 c1 (by omega) (by omega) sb.1 sb.2 ((ot_seedNow f3.1).trans sd0) f4 (by omega)
    refine ⟨T', M', w', m', d', c', s', ?_, ?_, sc_trans sc0 (sc_trans (hi_sc f3) r3), r4, r5⟩
    · unfold fX5_drawn_L58
      rw [if_neg (n_le (by omega) (by omega) (by omega) (by omega) (by omega)), seed5 s0 s1, cv_lt_eq, key5, show gX5_trial (sX5_trial C T) = T from rfl, cv_bd_eq f1, cv_lt_eq, cv_lt_eq, ii_l1, ii_add]
      exact r1
    · unfold fX6_drawn_L53
      rw [if_neg (n_le (by omega) (by omega) (by omega) (by omega) (by omega)), show (100 : Int32) = ii 100 from rfl, cv_bd_eq hd]
      simp only [ii_l0, ii_l1, ii_l2, ii_l40, ii_l100, ii_neg, cv_lt_eq, ii_add]
      rw [cv_gd_pos (ii_in (by omega) (by omega) (by omega)), cv_bd_eq f2]
      exact r2
theorem B_drawn (hn : 0 ≤ n ∧ n ≤ 10000) (h : Inv n C M) (a1 a2 a3 : Int32) : ∃ r C' M', fX5_drawn C a1 a2 a3 = some (r, C') ∧ fX6_drawn M a1 a2 a3 = some (r, M') ∧ Inv n C' M' := by
  obtain ⟨k, rfl, k0, k1⟩ := ii_all a1
  obtain ⟨j, rfl, j0, j1⟩ := ii_all a2
  obtain ⟨u, rfl, u0, u1⟩ := ii_all a3
  have hI := h
  obtain ⟨o, g_, P, r, q', h1, h2, h3, ⟨v, a, b, m, d, c, f, x, y, xs, q, hs⟩, h5⟩ := h
  unfold fX5_drawn fX6_drawn
  rw [cv_bd_eq (in6 (lo := 1) (hi := 60) k0 k1 rfl rfl), cv_bd_eq (in6 (lo := 0) (hi := 2) u0 u1 rfl rfl), h1.1]
  by_cases c1 : 1 ≤ k ∧ k ≤ 60
  · rw [if_neg (show ¬ ii k < (1 : Int32) from n_lt (c := 1) k0 k1 (by omega) (by omega) (by omega)), if_neg (show ¬ (60 : Int32) < ii k from n_lt (k := 60) (by omega) (by omega) k0 k1 (by omega)), if_pos c1, if_neg z1_]
    by_cases c2 : j < 0
    · have := (show ii j < (0 : Int32) from p_lt (c := 0) j0 j1 (by omega) (by omega) c2)
      rw [if_pos this, if_pos this]
      exact ⟨_, C, M, rfl, rfl, hI⟩
    · have := (show ¬ ii j < (0 : Int32) from n_lt (c := 0) j0 j1 (by omega) (by omega) c2)
      rw [if_neg this, if_neg this]
      by_cases c3 : 0 ≤ u ∧ u ≤ 2
      · rw [if_neg (show ¬ ii u < (0 : Int32) from n_lt (c := 0) u0 u1 (by omega) (by omega) (by omega)), if_pos (show ii u ≤ (2 : Int32) from p_le (c := 2) u0 u1 (by omega) (by omega) c3.2), if_pos c3, if_neg z1_]
        cases o with
        | false =>
          rw [if_pos fgF, cv_bd_eq (lacksF hs), if_neg z1_]
          exact ⟨_, C, M, rfl, rfl, hI⟩
        | true =>
          obtain ⟨⟨t1, t2, t3, t4, t5, t6⟩, g2, -⟩ := id hs
          obtain ⟨T0, cc1, cc2, cc3⟩ := copy_eq (gX5_trial C) t1 t3
          obtain ⟨M0, hM0⟩ : ∃ M0, M0 = sX6_seedNow M (ii j) := ⟨_, rfl⟩
          have r0 : rc M0 0 v := by rw [hM0]; exact t2
          have n0 : nm M0 0 m d c := by rw [hM0]; exact t4
          have a0 : ab M0 0 a b := by rw [hM0]; exact ab0 t5
          have s00 : sc M M0 := by rw [hM0]; exact ⟨rfl, zo_refl M, zn_refl M, rfl, rfl, rfl, rfl, rfl, rfl, rfl⟩
          obtain ⟨M1, e1, e2, e3, e4, e5, e6, e7⟩ := begin6 r0 a0 n0
          have sd1 : gX6_seedNow M1 = ii j := by
            have := ob_seedNow e5
            rw [this, hM0]; rfl
          rw [if_neg fgT, cv_bd_eq (lacksT hs), if_pos z0_, cv_bd_eq cc1, cv_lt_eq, cv_lt_eq, cv_lt_eq, ← hM0, cv_bd_eq e1, ii_64 (by omega) j1]
          obtain ⟨T', M', w', m', d', c', s', r1, r2, r3, r4, r5⟩ := drw_L (C := C) (D := d) (K := c) (g2.1 rfl).1 (u := k) (w3 := u) k0 (by omega) k.toNat 256 0 j T0 M1 v m 0 0 (by omega) (by omega) (by omega) j1 sd1 ⟨cc2, by rw [Int.add_zero, Int.add_zero]; exact cc3, e2, e3, e4, t6⟩ (by omega)
          have hsc := sc_trans s00 (sc_trans (ob_sc e5 e6 e7) r3)
          have gt := ig2 (t := 1) (Or.inr rfl)
          have key : ∀ res, (if ii u = 0 then some (gX4_cost T' - gX4_cost (gX3_tree (gX5_now C)), sX5_trial C T') else if ii u = 1 then cv_bd (fX4_tall T') (fun r19 => some (r19.1, sX5_trial C r19.2)) else some ((ll s').toInt32, sX5_trial C T')) = res → cv_bd (fX5_drawn_L58 (ii k) (ii u) 256 (ll j) (0 : Int32) (sX5_trial C T0)) (fun j15 => if ii u = 0 then some (((gX4_cost (gX5_trial j15.2)) - (gX4_cost (gX3_tree (gX5_now j15.2)))), j15.2) else if ii u = 1 then cv_bd (fX4_tall (gX5_trial j15.2)) (fun r19 => cv_lt (sX5_trial j15.2 r19.2) fun s20 => some (r19.1, s20)) else some ((j15.1).toInt32, j15.2)) = res := fun res hres => (cv_bd_eq r1 _).trans hres
          have key2 : ∀ res, (if ii u = 0 then some (gX6_cost M' (ii 1).toNatClampNeg, M') else if ii u = 1 then cv_bd (fX6_tall M' (ii 1)) (fun r25 => some (r25, M')) else some (gX6_seedNow M', M')) = res → cv_bd (fX6_drawn_L53 (ii k) (ii u) 256 (0 : Int32) M1) (fun j21 => if ii u = 0 then cv_gd (0 ≤ ((1 : Int32)).toInt ∧ ((1 : Int32)).toInt < 2) (some (((gX6_cost j21) ((1 : Int32)).toNatClampNeg), j21)) else if ii u = (1 : Int32) then cv_bd (fX6_tall j21 (1 : Int32)) (fun r25 => some (r25, j21)) else some ((gX6_seedNow j21), j21)) = res := fun res hres => by
            refine (cv_bd_eq r2 _).trans ?_
            rw [show (1 : Int32) = ii 1 from rfl, cv_gd_pos gt]
            exact hres
          rw [show gX4_cost T' = ii (c + c') from r4.2.1.2.2.2.2, t3.2.2.2.2, ii_sub, show c + c' - c = c' by omega, ll_32] at key
          rw [r4.2.2.2.1.2.2, r5] at key2
          by_cases z0 : ii u = 0
          · rw [if_pos z0] at key key2
            exact ⟨_, _, M', key _ rfl, key2 _ rfl, Inv_tr hI ⟨_, rfl⟩ hsc⟩
          · rw [if_neg z0] at key key2
            by_cases z1 : ii u = 1
            · obtain ⟨f, et⟩ := tall_eq r4.1
              rw [if_pos z1, cv_bd_eq et] at key
              rw [if_pos z1, cv_bd_eq (tall6 r4.2.2.1 (Or.inr rfl))] at key2
              exact ⟨_, _, M', key _ rfl, key2 _ rfl, Inv_tr hI ⟨_, rfl⟩ hsc⟩
            · rw [if_neg z1] at key key2
              exact ⟨_, _, M', key _ rfl, key2 _ rfl, Inv_tr hI ⟨_, rfl⟩ hsc⟩
      · rw [if_neg c3, if_pos z0_]
        refine ⟨_, C, M, ?_, rfl, hI⟩
        by_cases z : u < 0
        · rw [if_pos (show ii u < (0 : Int32) from p_lt (c := 0) u0 u1 (by omega) (by omega) z)]
        · rw [if_neg (show ¬ ii u < (0 : Int32) from n_lt (c := 0) u0 u1 (by omega) (by omega) z), if_neg (show ¬ ii u ≤ (2 : Int32) from n_le (c := 2) u0 u1 (by omega) (by omega) (by omega))]
  · rw [if_neg c1, if_pos z0_]
    refine ⟨_, C, M, ?_, rfl, hI⟩
    by_cases z : k < 1
    · rw [if_pos (show ii k < (1 : Int32) from p_lt (c := 1) k0 k1 (by omega) (by omega) z)]
    · rw [if_neg (show ¬ ii k < (1 : Int32) from n_lt (c := 1) k0 k1 (by omega) (by omega) z), if_pos (show (60 : Int32) < ii k from p_lt (k := 60) (by omega) (by omega) k0 k1 (by omega))]
end
