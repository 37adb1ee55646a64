/-! both: what is seen -/
theorem and_in : ∀ b : Nat, b < 32 → ∀ w : Nat, w < 4 → ∀ c : Nat, c < 2 → ii b &&& ft w c = ii ((ii b &&& ft w c).toInt) ∧ 0 ≤ (ii b &&& ft w c).toInt ∧ (ii b &&& ft w c).toInt < 32 := by decide +kernel
theorem sb_eq {w : Int} (h : 0 ≤ w ∧ w ≤ 3) : fX6_sortsBy (ii w) = some (sb w) := by
  have hw : w = 0 ∨ w = 1 ∨ w = 2 ∨ w = 3 := by omega
  rcases hw with rfl | rfl | rfl | rfl <;> rfl
theorem ft_see {w : Int} (h : 0 ≤ w ∧ w ≤ 3) : cv_able (ii w).toNatClampNeg = ft w 1 ∧ (31 : Int32) &&& (cv_able (ii w).toNatClampNeg ^^^ (-1 : Int32)) = ft w 0 := by
  have hw : w = 0 ∨ w = 1 ∨ w = 2 ∨ w = 3 := by omega
  rcases hw with rfl | rfl | rfl | rfl <;> decide
section
variable {n : Int} {C : SX5} {M : SX6}
theorem sorts_L {S2 : SX2} {q : Nat} (h1 : gX2_length S2 = ii q) (h2 : gX6_seenMany M = ii q) (h3 : snR (gX2_keys S2) (gX2_fitting S2) (gX6_sights M) q) {k : Int} (k0 : -2147483648 ≤ k) (k1 : k < 2147483648) : ∀ (m n i : Nat) (b : Int), i + m = q → 0 ≤ b → b < 32 → m < n → ∃ s : Int, 0 ≤ s ∧ s < 32 ∧ fX2_sortsOf_L5 S2 (ii k) n (ii b) (ii i) = some (ii s) ∧ fX6_sortsOf_L5 M (ii k) n (ii b) (ii (3 * i)) = some (ii s)
  | 0, n, i, b, e, b0, b1, hn => by
    obtain ⟨n, rfl⟩ : ∃ m, n = m + 1 := ⟨n - 1, by omega⟩
    have q6 := h3.1
    refine ⟨b, b0, b1, ?_, ?_⟩
    · unfold fX2_sortsOf_L5
      rw [h1, if_pos (p_le (by omega) (by omega) (by omega) (by omega) (by omega))]
    · unfold fX6_sortsOf_L5
      rw [h2, ii_l3, ii_mul, if_pos (p_le (by omega) (by omega) (by omega) (by omega) (by omega))]
  | m + 1, n, i, b, e, b0, b1, hn => by
    obtain ⟨n, rfl⟩ : ∃ m, n = m + 1 := ⟨n - 1, by omega⟩
    have q6 := h3.1
    obtain ⟨a1, a2, a3, a4⟩ := h3.2 i (by omega)
    have r1 := rd_lo (gX2_keys S2) i
    have r2 := rd_hi (gX2_keys S2) i
    have g1 := ii_in (k := (i : Int)) (n := 6) (by omega) (by omega) (by omega)
    have g2 := ii_in (k := 3 * (i : Int)) (n := 18) (by omega) (by omega) (by omega)
    have g3 := ii_in (k := 3 * (i : Int) + 1) (n := 18) (by omega) (by omega) (by omega)
    have g4 := ii_in (k := 3 * (i : Int) + 2) (n := 18) (by omega) (by omega) (by omega)
    obtain ⟨w, hw⟩ : ∃ w, w = rd (gX6_sights M) (3 * i + 1) := ⟨_, rfl⟩
    obtain ⟨c, hc⟩ : ∃ c, c = rd (gX6_sights M) (3 * i + 2) := ⟨_, rfl⟩
    rw [← hw] at a2 a4
    rw [← hc] at a3 a4
    have next : ∀ b' : Int, 0 ≤ b' → b' < 32 → ∃ s : Int, 0 ≤ s ∧ s < 32 ∧ fX2_sortsOf_L5 S2 (ii k) n (ii b') (ii (i + 1)) = some (ii s) ∧ fX6_sortsOf_L5 M (ii k) n (ii b') (ii (3 * i + 3)) = some (ii s) := fun b' q1 q2 => by
      have := sorts_L h1 h2 h3 k0 k1 m n (i + 1) b' (by omega) q1 q2 (by omega)
      rw [show 3 * ((i + 1 : Nat) : Int) = 3 * i + 3 by omega] at this
      exact this
    have u1 : ∀ X Y : Option Int32, (if rd (gX2_keys S2) i = k then X else Y) = (if ii (rd (gX2_keys S2) i) = ii k then X else Y) := fun X Y => by
      by_cases z : rd (gX2_keys S2) i = k
      · rw [if_pos z, if_pos (by rw [z])]
      · rw [if_neg z, if_neg (fun t => z ((ii_eq (by omega) (by omega) (by omega) (by omega)).mp t))]
    unfold fX2_sortsOf_L5 fX6_sortsOf_L5
    simp only [ii_l0, ii_l1, ii_l2, ii_l40, ii_l100, ii_neg, ii_l3, ii_l4, ii_l5, ii_l6, ii_l7, ii_l8, ii_l10, ii_l31, ii_l44, ii_l48, ii_l52, ii_l54, ii_l57, ii_l59, ii_l60, ii_l61, ii_l99, ii_l101, ii_l102, ii_l103, ii_l104, ii_l108, ii_l110, ii_l115, ii_l126, ii_l999, ii_l100000, ii_l65536, cv_lt_eq]
    rw [h1, h2, ii_mul, if_neg (n_le (by omega) (by omega) (by omega) (by omega) (by omega)), if_neg (n_le (by omega) (by omega) (by omega) (by omega) (by omega)), cv_gd_pos g1, cv_gd_pos g1, cv_gd_pos g2, ii_add, ii_add, ii_add, cv_gd_pos g3, qX2_keys S2 (by omega) (by omega), qX6_sights M (k := 3 * (i : Int)) (by omega) (by omega), qX6_sights M (k := 3 * (i : Int) + 1) (by omega) (by omega), ← hw, ← a1, cv_bd_eq (sb_eq a2), ii_add, cv_gd_pos g4, qX6_sights M (k := 3 * (i : Int) + 2) (by omega) (by omega), ← hc, a4, ← u1, ← u1]
    by_cases z : rd (gX2_keys S2) i = k
    · rw [if_pos z, if_pos z, cv_bd_some, show cv_bd (if ii c = ii 1 then some (sb w) else some (ii 31 - sb w)) (fun j10 => some (ii b &&& j10)) = some (ii b &&& ft w c) by
        unfold ft
        rcases a3 with rfl | rfl
        · rw [if_neg (show ¬ ii 0 = ii 1 by decide), if_neg (by omega)]; rfl
        · rw [if_pos rfl, if_pos rfl]; rfl, cv_bd_some]
      have key := and_in b.toNat (by omega) w.toNat (by omega) c.toNat (by rcases a3 with rfl | rfl <;> decide)
      rw [show ((b.toNat : Nat) : Int) = b by omega, show ((w.toNat : Nat) : Int) = w by omega, show ((c.toNat : Nat) : Int) = c by rcases a3 with rfl | rfl <;> rfl] at key
      obtain ⟨s, t1, t2, t3, t4⟩ := next _ key.2.1 key.2.2
      rw [key.1]
      exact ⟨s, t1, t2, t3, t4⟩
    · rw [if_neg z, if_neg z, cv_bd_some, cv_bd_some]
      exact next b b0 b1
theorem sorts6 {o : Bool} {s : SX3} {v : Tr} {a b m d c f x y : Int} {xs : List Int} {q : Nat} (h : sq n o s M v a b m d c f x y xs q) {k : Int} (k0 : -2147483648 ≤ k) (k1 : k < 2147483648) : ∃ t : Int, 0 ≤ t ∧ t < 32 ∧ fX2_sortsOf (gX3_seen s) (ii k) = some (ii t) ∧ fX6_sortsOf M (ii k) = some (ii t) := by
  obtain ⟨-, -, -, -, -, -, q1, q2, q3⟩ := h
  obtain ⟨t, t0, t1, e1, e2⟩ := sorts_L q1 q2 q3 k0 k1 q 256 0 31 (by omega) (by omega) (by omega) (by have := q3.1; omega)
  refine ⟨t, t0, t1, ?_, ?_⟩
  · unfold fX2_sortsOf
    refine cv_bd_eq e1 _
  · unfold fX6_sortsOf
    refine cv_bd_eq e2 _
def askL (u2 : Int32) : Nat → Int32 → Int32 → Int32 → Option Int32
  | 0, _, _, _ => none
  | n + 1, y3, y4, y5 => if (4 : Int32) ≤ y5 then some y3 else if u2 = 0 then some y3 else
    cv_bd (fX6_sortsBy y5) fun r4 => cv_bd (fX6_ones (u2 &&& r4)) fun r5 => cv_bd (fX6_ones u2) fun r6 => cv_lt ((r6 - r5)) fun x7 =>
    cv_bd (if r5 ≤ x7 then some x7 else some r5) fun j8 => cv_bd (if y4 ≤ j8 then some y3 else some y5) fun j10 => cv_bd (if y4 ≤ j8 then some y4 else some j8) fun j12 => cv_lt (y5 + (1 : Int32)) fun x14 => askL u2 n j10 j12 x14
theorem askL_eq (S : SX6) (u : Int32) : ∀ (n : Nat) (y3 y4 y5 : Int32), fX6_askOf_L15 S u n y3 y4 y5 = askL u n y3 y4 y5 := by
  intro n
  induction n with
  | zero => intro _ _ _; rfl
  | succ n ih =>
    intro y3 y4 y5
    unfold fX6_askOf_L15 askL
    simp only [ih]
theorem ask_all : ∀ t : Nat, t < 32 → fX5_bestAsk (ii t) = askL (ii t) 256 (-1) 6 0 ∧ (askL (ii t) 256 (-1) 6 0).isSome = true := by decide +kernel
theorem ask6 {t : Int} (t0 : 0 ≤ t) (t1 : t < 32) : ∃ r, fX5_bestAsk (ii t) = some r ∧ fX6_askOf_L15 M (ii t) 256 (-1) 6 0 = some r := by
  have h := ask_all t.toNat (by omega)
  rw [show ((t.toNat : Nat) : Int) = t by omega] at h
  obtain ⟨r, hr⟩ := Option.isSome_iff_exists.mp h.2
  exact ⟨r, h.1.trans hr, (askL_eq M _ _ _ _ _).trans hr⟩
theorem askOf6 {o : Bool} {s : SX3} {v : Tr} {a b m d c f x y : Int} {xs : List Int} {q : Nat} (h : sq n o s M v a b m d c f x y xs q) {k : Int} (k0 : -2147483648 ≤ k) (k1 : k < 2147483648) : ∃ t r, fX2_sortsOf (gX3_seen s) (ii k) = some t ∧ fX6_sortsOf M (ii k) = some t ∧ fX5_bestAsk t = some r ∧ fX6_askOf M (ii k) = some r := by
  obtain ⟨t, t0, t1, e1, e2⟩ := sorts6 h k0 k1
  obtain ⟨r, r1, r2⟩ := ask6 (M := M) t0 t1
  refine ⟨ii t, r, e1, e2, r1, ?_⟩
  unfold fX6_askOf
  rw [cv_bd_eq e2, cv_bd_eq r2]
theorem B_sorts (hn : 0 ≤ n ∧ n ≤ 10000) (h : Inv n C M) (a1 a2 : Int32) : ∃ r, fX5_sorts C a1 a2 = some r ∧ fX6_sorts M a1 a2 = some r := by
  obtain ⟨k, rfl, k0, k1⟩ := ii_all a1
  obtain ⟨j, rfl, j0, j1⟩ := ii_all a2
  obtain ⟨o, g, P, r, q', h1, h2, h3, ⟨v, a, b, m, d, c, f, x, y, xs, q, hs⟩, h5⟩ := h
  obtain ⟨t, r', e1, e2, e3, e4⟩ := askOf6 hs k0 k1
  unfold fX5_sorts fX6_sorts
  rw [cv_bd_eq (noKey k0 k1), cv_bd_eq (in6 (lo := 0) (hi := 99) k0 k1 rfl rfl), cv_bd_eq (in6 (lo := 0) (hi := 1) j0 j1 rfl rfl)]
  by_cases c1 : 0 ≤ k ∧ k ≤ 99
  · rw [if_pos c1, if_pos z0_, if_pos c1, if_neg z1_]
    by_cases c2 : 0 ≤ j ∧ j ≤ 1
    · rw [if_neg (show ¬ ii j < (0 : Int32) from n_lt (c := 0) j0 j1 (by omega) (by omega) (by omega)), if_pos (show ii j ≤ (1 : Int32) from p_le (c := 1) j0 j1 (by omega) (by omega) c2.2), if_pos c2, if_neg z1_, cv_bd_eq e1, cv_bd_eq e2, cv_bd_eq e3, cv_bd_eq e4]
      by_cases z : ii j = 0
      · rw [if_pos z]; exact ⟨_, rfl, rfl⟩
      · rw [if_neg z]; exact ⟨_, rfl, rfl⟩
    · rw [if_neg c2, if_pos z0_]
      refine ⟨_, ?_, rfl⟩
      by_cases z : j < 0
      · rw [if_pos (show ii j < (0 : Int32) from p_lt (c := 0) j0 j1 (by omega) (by omega) z)]
      · rw [if_neg (show ¬ ii j < (0 : Int32) from n_lt (c := 0) j0 j1 (by omega) (by omega) z), if_neg (show ¬ ii j ≤ (1 : Int32) from n_le (c := 1) j0 j1 (by omega) (by omega) (by omega))]
  · rw [if_neg c1, if_neg z1_, if_neg c1, if_pos z0_]
    exact ⟨_, rfl, rfl⟩
theorem B_forget (hn : 0 ≤ n ∧ n ≤ 10000) (h : Inv n C M) : ∃ r C' M', fX5_forget C = some (r, C') ∧ fX6_forget M = some (r, M') ∧ Inv (n + 1) C' M' := by
  obtain ⟨o, g, P, r, q', h1, h2, h3, ⟨v, a, b, m, d, c, f, x, y, xs, q, ⟨t, g2, g3, g4, gm, gl, q1, q2, q3⟩⟩, h5⟩ := h
  unfold fX5_forget fX6_forget
  simp only [cv_lt_eq]
  rw [q1, q2]
  refine ⟨_, _, _, rfl, rfl, Inv_keep (n := n) (by omega) h1 h2 h3 h5 rfl rfl rfl rfl rfl rfl (sr_mono (n := n) ⟨v, a, b, m, d, c, f, x, y, xs, 0, t, g2, g3, g4, gm, gl, rfl, rfl, by omega, fun i hi => by omega⟩ (by omega))⟩
theorem B_see (hn : 0 ≤ n ∧ n ≤ 10000) (h : Inv n C M) (a1 a2 a3 : Int32) : ∃ r C' M', fX5_see C a1 a2 a3 = some (r, C') ∧ fX6_see M a1 a2 a3 = some (r, M') ∧ Inv (n + 1) C' M' := by
  obtain ⟨k, rfl, k0, k1⟩ := ii_all a1
  obtain ⟨j, rfl, j0, j1⟩ := ii_all a2
  have hI := Inv_mono h (show n ≤ n + 1 by omega)
  obtain ⟨o, g_, P, r, q', h1, h2, h3, h4, h5⟩ := h
  obtain ⟨v, a, b, m, d, c, f, x, y, xs, q, hs⟩ := id h4
  unfold fX5_see fX6_see
  rw [cv_bd_eq (noKey k0 k1), cv_bd_eq (in6 (lo := 0) (hi := 99) k0 k1 rfl rfl), cv_bd_eq (in6 (lo := 0) (hi := 3) j0 j1 rfl rfl), h1.1]
  by_cases c1 : 0 ≤ k ∧ k ≤ 99
  · rw [if_pos c1, if_pos z0_, if_pos c1, if_neg z1_]
    by_cases c2 : 0 ≤ j ∧ j ≤ 3
    · rw [if_neg (show ¬ ii j < (0 : Int32) from n_lt (c := 0) j0 j1 (by omega) (by omega) (by omega)), if_pos (show ii j < (4 : Int32) from p_lt (c := 4) j0 j1 (by omega) (by omega) (by omega)), if_pos c2, if_neg z1_]
      cases o with
      | false =>
        rw [if_pos fgF, cv_bd_eq (lacksF hs), if_neg z1_]
        exact ⟨_, C, M, rfl, rfl, hI⟩
      | true =>
        rw [if_neg fgT, cv_bd_eq (lacksT hs), if_pos z0_]
        obtain ⟨t, g2, g3, g4, gm, gl, q1, q2, q3⟩ := id hs
        have q6 := q3.1
        have gj := ii_in (k := j) (n := 4) c2.1 (by omega) (by omega)
        have hft := ft_see c2
        obtain ⟨cc, hcc⟩ : ∃ cc : Int, cc = if a3 = 0 then 0 else 1 := ⟨_, rfl⟩
        have cc0 : cc = 0 ∨ cc = 1 := by rw [hcc]; split <;> simp
        have j6 : (if a3 = 0 then cv_gd (0 ≤ (ii j).toInt ∧ (ii j).toInt < 4) (some ((31 : Int32) &&& (cv_able (ii j).toNatClampNeg ^^^ (-1 : Int32)))) else cv_gd (0 ≤ (ii j).toInt ∧ (ii j).toInt < 4) (some (cv_able (ii j).toNatClampNeg))) = some (ft j cc) := by
          rw [cv_gd_pos gj, cv_gd_pos gj, hft.2, hft.1, hcc]
          split <;> rfl
        have j12 : (if a3 = ii 0 then some (ii 0) else some (ii 1)) = some (ii cc) := by
          rw [hcc]
          show (if a3 = 0 then some (ii 0) else some (ii 1)) = _
          split <;> rfl
        rw [cv_bd_eq j6]
        unfold fX2_add
        rw [q1, q2]
        by_cases z : q = 6
        · rw [if_neg (show ¬ ii q < (6 : Int32) from n_lt (c := 6) (by omega) (by omega) (by omega) (by omega) (by omega)), cv_bd_some, cv_lt_eq, if_pos (show ((0 : Int32), gX3_seen (gX5_now C)).1 = 0 from rfl), if_pos (show ii q = (6 : Int32) by rw [z]; rfl)]
          exact ⟨_, _, M, rfl, rfl, hI⟩
        · have gq := ii_in (k := (q : Int)) (n := 6) (by omega) (by omega) (by omega)
          have s1 := ii_in (k := 3 * (q : Int)) (n := 18) (by omega) (by omega) (by omega)
          have s2 := ii_in (k := 3 * (q : Int) + 1) (n := 18) (by omega) (by omega) (by omega)
          have s3 := ii_in (k := 3 * (q : Int) + 2) (n := 18) (by omega) (by omega) (by omega)
          have nz : ¬ ii q = (6 : Int32) := i_ne (b := 6) (by omega) (by omega) (by omega) (by omega) (by omega)
          rw [if_pos (show ii q < (6 : Int32) from p_lt (c := 6) (by omega) (by omega) (by omega) (by omega) (by omega)), if_neg nz]
          simp only [ii_l0, ii_l1, ii_l2, ii_l40, ii_l100, ii_neg, ii_l3, ii_l4, ii_l5, ii_l6, ii_l7, ii_l8, ii_l10, ii_l31, ii_l44, ii_l48, ii_l52, ii_l54, ii_l57, ii_l59, ii_l60, ii_l61, ii_l99, ii_l101, ii_l102, ii_l103, ii_l104, ii_l108, ii_l110, ii_l115, ii_l126, ii_l999, ii_l100000, ii_l65536, cv_lt_eq]
          rw [cv_gd_pos gq]
          rw [show gX2_length (sX2_keys (gX3_seen (gX5_now C)) (upd (gX2_keys (gX3_seen (gX5_now C))) (ii q).toNatClampNeg (ii k))) = ii q from q1, cv_gd_pos gq, cv_bd_some, if_neg i0]
          simp only [show ∀ (F : Nat → Int32), gX6_seenMany (sX6_sights M F) = ii q from fun _ => q2, show ∀ (F G : Nat → Int32), gX6_seenMany (sX6_sights (sX6_sights M F) G) = ii q from fun _ _ => q2, show ∀ (F G H : Nat → Int32), gX6_seenMany (sX6_sights (sX6_sights (sX6_sights M F) G) H) = ii q from fun _ _ _ => q2, ii_mul, ii_add]
          rw [cv_gd_pos s1, cv_gd_pos s2, cv_bd_eq j12, cv_gd_pos s3]
          obtain ⟨G, hG⟩ : ∃ G, G = upd (upd (upd (gX6_sights M) (ii (3 * q)).toNatClampNeg (ii k)) (ii (3 * q + 1)).toNatClampNeg (ii j)) (ii (3 * q + 2)).toNatClampNeg (ii cc) := ⟨_, rfl⟩
          have Ge : ∀ i : Int, 0 ≤ i → rd G i = if i = 3 * q + 2 then cc else if i = 3 * q + 1 then j else if i = 3 * q then k else rd (gX6_sights M) i := fun i hi => by
            rw [hG, rd_at (by omega) (by omega) (by omega) (by omega) hi, rd_at (by omega) (by omega) (by omega) (by omega) hi, rd_at (by omega) (by omega) (by omega) (by omega) hi]
          obtain ⟨S2, hS2⟩ : ∃ S2, S2 = sX2_length (sX2_fitting (sX2_keys (gX3_seen (gX5_now C)) (upd (gX2_keys (gX3_seen (gX5_now C))) (ii q).toNatClampNeg (ii k))) (upd (gX2_fitting (gX3_seen (gX5_now C))) (ii q).toNatClampNeg (ft j cc))) (ii (q + 1)) := ⟨_, rfl⟩
          refine ⟨ii (q + 1), sX5_now C (sX3_seen (gX5_now C) S2), sX6_seenMany (sX6_sights M G) (ii (q + 1)), ?_, ?_, ?_⟩
          · rw [hS2]
            show some (gX2_length (gX3_seen (gX5_now C)) + ii 1, sX5_now C (sX3_seen (gX5_now C) (sX2_length (sX2_fitting (sX2_keys (gX3_seen (gX5_now C)) (upd (gX2_keys (gX3_seen (gX5_now C))) (ii q).toNatClampNeg (ii k))) (upd (gX2_fitting (gX3_seen (gX5_now C))) (ii q).toNatClampNeg (ft j cc))) (gX2_length (gX3_seen (gX5_now C)) + ii 1)))) = _
            rw [q1, ii_add]
          · rw [hG]; rfl
          · refine Inv_keep (n := n) (by omega) h1 h2 h3 h5 rfl rfl rfl rfl rfl rfl (sr_mono (n := n) ⟨v, a, b, m, d, c, f, x, y, xs, q + 1, t, g2, g3, g4, gm, gl, ?_, ?_, by omega, fun i hi => ?_⟩ (by omega))
            · rw [hS2]; rfl
            · rfl
            · rw [hS2]
              show rd (upd (gX2_keys (gX3_seen (gX5_now C))) (ii q).toNatClampNeg (ii k)) i = rd G (3 * i) ∧ (0 ≤ rd G (3 * i + 1) ∧ rd G (3 * i + 1) ≤ 3) ∧ (rd G (3 * i + 2) = 0 ∨ rd G (3 * i + 2) = 1) ∧ upd (gX2_fitting (gX3_seen (gX5_now C))) (ii q).toNatClampNeg (ft j cc) (ii i).toNatClampNeg = ft (rd G (3 * i + 1)) (rd G (3 * i + 2))
              rw [rd_at (by omega) (by omega) (by omega) (by omega) (by omega), Ge _ (by omega), Ge _ (by omega), Ge _ (by omega)]
              by_cases w : i = q
              · rw [w, if_pos rfl, if_neg (by omega), if_neg (by omega), if_pos rfl, if_neg (by omega), if_pos rfl, if_pos rfl, upd_1]
                exact ⟨rfl, ⟨c2.1, c2.2⟩, cc0, rfl⟩
              · rw [if_neg (by omega), if_neg (by omega), if_neg (by omega), if_neg (by omega), if_neg (by omega), if_neg (by omega), if_neg (by omega), if_neg (by omega), if_neg (by omega), if_neg (by omega)]
                have e := q3.2 i (by omega)
                refine ⟨e.1, e.2.1, e.2.2.1, ?_⟩
                unfold upd
                rw [if_neg (by rw [ii_cl (by omega) (by omega), ii_cl (by omega) (by omega)]; omega)]
                exact e.2.2.2
    · rw [if_neg c2, if_pos z0_]
      refine ⟨_, C, M, ?_, rfl, hI⟩
      by_cases z : j < 0
      · rw [if_pos (show ii j < (0 : Int32) from p_lt (c := 0) j0 j1 (by omega) (by omega) z)]
      · rw [if_neg (show ¬ ii j < (0 : Int32) from n_lt (c := 0) j0 j1 (by omega) (by omega) z), if_neg (show ¬ ii j < (4 : Int32) from n_lt (c := 4) j0 j1 (by omega) (by omega) (by omega))]
  · rw [if_neg c1, if_neg z1_, if_neg c1, if_pos z0_]
    exact ⟨_, C, M, rfl, rfl, hI⟩
end
