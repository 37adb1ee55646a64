/-! both: put, take, tell, at, ledger -/
theorem able1 {t : Int} (h : 0 ≤ t ∧ t ≤ 4) : fX5_isAble (ii t) (ii 1) = some (if t = 4 then ii 0 else ii 1) := by
  have ht : t = 0 ∨ t = 1 ∨ t = 2 ∨ t = 3 ∨ t = 4 := by omega
  rcases ht with rfl | rfl | rfl | rfl | rfl <;> rfl
theorem able0 {t : Int} (h : 0 ≤ t ∧ t ≤ 4) : fX5_isAble (ii t) (ii 0) = some (if t = 1 ∨ t = 4 then ii 0 else ii 1) := by
  have ht : t = 0 ∨ t = 1 ∨ t = 2 ∨ t = 3 ∨ t = 4 := by omega
  rcases ht with rfl | rfl | rfl | rfl | rfl <;> rfl
theorem n_lt {k c : Int} (h1 : -2147483648 ≤ k) (h2 : k < 2147483648) (h3 : -2147483648 ≤ c) (h4 : c < 2147483648) (h : ¬ k < c) : ¬ ii k < ii c := fun t => h ((ii_lt h1 h2 h3 h4).mp t)
theorem p_lt {k c : Int} (h1 : -2147483648 ≤ k) (h2 : k < 2147483648) (h3 : -2147483648 ≤ c) (h4 : c < 2147483648) (h : k < c) : ii k < ii c := (ii_lt h1 h2 h3 h4).mpr h
theorem n_le {k c : Int} (h1 : -2147483648 ≤ k) (h2 : k < 2147483648) (h3 : -2147483648 ≤ c) (h4 : c < 2147483648) (h : ¬ k ≤ c) : ¬ ii k ≤ ii c := fun t => h ((ii_le h1 h2 h3 h4).mp t)
theorem p_le {k c : Int} (h1 : -2147483648 ≤ k) (h2 : k < 2147483648) (h3 : -2147483648 ≤ c) (h4 : c < 2147483648) (h : k ≤ c) : ii k ≤ ii c := (ii_le h1 h2 h3 h4).mpr h
theorem noKey {k : Int} (h1 : -2147483648 ≤ k) (h2 : k < 2147483648) : fX5_isNoKey (ii k) = some (if 0 ≤ k ∧ k ≤ 99 then ii 0 else ii 1) := by
  unfold fX5_isNoKey
  simp (disch := omega) only [ii_l0, ii_l1, ii_l2, ii_l40, ii_l100, ii_neg, ii_l3, ii_l4, ii_l5, ii_l6, ii_l7, ii_l8, ii_l10, ii_l31, ii_l44, ii_l48, ii_l52, ii_l54, ii_l57, ii_l59, ii_l60, ii_l61, ii_l99, ii_l101, ii_l102, ii_l103, ii_l104, ii_l108, ii_l110, ii_l115, ii_l126, ii_l999, ii_l100000, ii_l65536, ii_lt]
  by_cases c1 : k < 0
  · rw [if_pos c1, if_neg (by omega)]
  · rw [if_neg c1]
    by_cases c2 : k < 100
    · rw [if_pos c2, if_pos (by omega)]
    · rw [if_neg c2, if_neg (by omega)]
section
variable {n : Int} {C : SX5} {M : SX6}
theorem place_old {o : Bool} {s : SX3} {v : Tr} {a b m d c f x y : Int} {xs : List Int} {q : Nat} (h : sq n o s M v a b m d c f x y xs q) {k kd vl : Int} (hk : k ∈ ks v) (kd0 : 0 ≤ kd ∧ kd ≤ 4) (vl0 : 0 ≤ vl ∧ vl ≤ 999) :
    ∃ s', fX3_place s (ii kd) (ii k) (ii vl) = some (ii 0, s') ∧ sq n o s' (sX6_values (sX6_kinds M (upd (gX6_kinds M) (ii k).toNatClampNeg (ii kd))) (upd (gX6_values M) (ii k).toNatClampNeg (ii vl))) v a b m d c f x y xs q := by
  obtain ⟨t, h2, h3, h4, hm, hl, hq⟩ := h
  have k0 := rc_in t.2.1 hk
  have g := ii_in (k := k) (n := 100) k0.1 k0.2 (by omega)
  refine ⟨sX3_values (sX3_kinds s (upd (gX3_kinds s) (ii k).toNatClampNeg (ii kd))) (upd (gX3_values s) (ii k).toNatClampNeg (ii vl)), ?_, t, h2, h3, ⟨kv_upd h4.1 (by omega) k0.1 k0.2 kd0.1 kd0.2, kv_upd h4.2 (by omega) k0.1 k0.2 vl0.1 vl0.2⟩, hm, hl, hq⟩
  unfold fX3_place
  simp only [cv_lt_eq]
  rw [cv_gd_pos g, cv_gd_pos g]
  refine (cv_bd_eq (a := ii 1) (has_yes t.1 hk) _).trans ?_
  rw [if_neg z1_]
  rfl
theorem B_put (hn : 0 ≤ n ∧ n ≤ 10000) (h : Inv n C M) (a1 a2 a3 : Int32) : ∃ r C' M', fX5_put C a1 a2 a3 = some (r, C') ∧ fX6_put M a1 a2 a3 = some (r, M') ∧ Inv (n + 1) C' M' := by
  obtain ⟨kd, rfl, kd0, kd1⟩ := ii_all a1
  obtain ⟨k, rfl, k0, k1⟩ := ii_all a2
  obtain ⟨vl, rfl, vl0, vl1⟩ := ii_all a3
  have hI := Inv_mono h (show n ≤ n + 1 by omega)
  obtain ⟨o, g_, P, r, q', h1, h2, h3, h4, h5⟩ := h
  obtain ⟨v, a, b, m, d, c, f, x, y, xs, q, hs⟩ := id h4
  unfold fX5_put fX6_put
  rw [cv_bd_eq (noKey k0 k1), cv_bd_eq (in6 (lo := 0) (hi := 4) kd0 kd1 rfl rfl), cv_bd_eq (in6 (lo := 0) (hi := 99) k0 k1 rfl rfl), cv_bd_eq (in6 (lo := 0) (hi := 999) vl0 vl1 rfl rfl), h1.1]
  simp only [cv_lt_eq]
  by_cases c1 : 0 ≤ kd ∧ kd ≤ 4
  · rw [if_neg (show ¬ ii kd < (0 : Int32) from n_lt (c := 0) kd0 kd1 (by omega) (by omega) (by omega)), if_neg (show ¬ (5 : Int32) ≤ ii kd from n_le (k := 5) (by omega) (by omega) kd0 kd1 (by omega)), if_pos c1, if_neg z1_]
    by_cases c2 : 0 ≤ k ∧ k ≤ 99
    · rw [if_pos c2, if_pos z0_, if_pos c2, if_neg z1_]
      by_cases c3 : 0 ≤ vl ∧ vl ≤ 999
      · rw [if_neg (show ¬ ii vl < (0 : Int32) from n_lt (c := 0) vl0 vl1 (by omega) (by omega) (by omega)), if_pos (show ii vl ≤ (999 : Int32) from p_le (c := 999) vl0 vl1 (by omega) (by omega) c3.2), if_pos c3, if_neg z1_]
        cases o with
        | false =>
          rw [if_pos fgF, cv_bd_eq (lacksF hs), if_neg z1_]
          exact ⟨_, C, M, rfl, rfl, hI⟩
        | true =>
          rw [if_neg fgT, cv_bd_eq (lacksT hs), if_pos z0_]
          obtain ⟨⟨t1, t2, t3, t4, t5, t6⟩, g2, g3, g4, -⟩ := id hs
          have g := ii_in (k := k) (n := 200) c2.1 (by omega) (by omega)
          have g' := ii_in (k := k) (n := 100) c2.1 (by omega) (by omega)
          have gt := ig2 (t := 0) (Or.inl rfl)
          simp only [ii_l0, ii_l1, ii_l2, ii_l40, ii_l100, ii_neg, ii_l3, ii_l4, ii_l5, ii_l6, ii_l7, ii_l8, ii_l10, ii_l31, ii_l44, ii_l48, ii_l52, ii_l54, ii_l57, ii_l59, ii_l60, ii_l61, ii_l99, ii_l101, ii_l102, ii_l103, ii_l104, ii_l108, ii_l110, ii_l115, ii_l126, ii_l999, ii_l100000, ii_l65536, cv_gd_pos g, cv_gd_pos g', cv_gd_pos gt]
          rw [th6 t2 c2.1 (by omega), many6 t2]
          by_cases z : k ∈ ks v
          · have kq := g4.1 k c2.1 (by omega)
            have kk := kvq g4.1 c2.1 (by omega : k < 100)
            rw [if_pos z, cv_bd_eq (has_yes t1 z), if_neg i0, kk, rd_ii (gX6_kinds M) c2.1 (by omega), cv_bd_eq (able1 kq.2), if_pos (show ii 1 = ii 1 from rfl), if_pos (show ii 1 = ii 1 from rfl)]
            by_cases z4 : rd (gX6_kinds M) k = 4
            · rw [if_pos z4, if_pos (show ii 0 = ii 0 from rfl), if_pos (show ii (rd (gX6_kinds M) k) = ii 4 by rw [z4])]
              exact ⟨_, C, M, rfl, rfl, hI⟩
            · obtain ⟨s', e1, e2⟩ := place_old hs z c1 c3
              rw [if_neg z4, if_neg i0, cv_bd_eq e1, if_neg (i_ne (by omega) (by omega) (by omega) (by omega) z4)]
              refine ⟨_, sX5_now C s', _, rfl, rfl, ?_⟩
              exact Inv_keep (by omega) h1 h2 h3 h5 rfl rfl rfl rfl rfl rfl (sr_mono ⟨_, _, _, _, _, _, _, _, _, _, _, e2⟩ (by omega))
          · have s0 := sz_nonneg v t1.1
            rw [if_neg z, cv_bd_eq (has_no t1 k0 k1 z), if_pos rfl, if_neg (show ¬ ii 0 = ii 1 by decide), if_neg (show ¬ ii 0 = ii 1 by decide)]
            by_cases y : sz v = 40
            · rw [cv_bd_eq (full_yes t1 y), if_neg i0, if_pos (by rw [y])]
              exact ⟨_, C, M, rfl, rfl, hI⟩
            · have hz := t1.2.2.1
              obtain ⟨s', M', r', e1, e2, e3, e4, x', y', xs', e5⟩ := place_new hn hs (k := k) (kd := kd) (vl := vl) c2.1 (by omega) z (by omega) c1 c3
              rw [cv_bd_eq (full_no t1 (by omega)), if_pos rfl, if_neg (i_ne (by omega) (by omega) (by omega) (by omega) y), cv_bd_eq e1, cv_bd_eq e2, e3]
              refine ⟨_, sX5_now C s', M', rfl, rfl, ?_⟩
              exact Inv_keep (by omega) h1 h2 h3 h5 rfl rfl rfl rfl rfl e4 ⟨_, _, _, _, _, _, _, _, _, _, _, e5⟩
      · rw [if_neg c3, if_pos z0_]
        refine ⟨_, C, M, ?_, rfl, hI⟩
        by_cases c4 : vl < 0
        · rw [if_pos (show ii vl < (0 : Int32) from p_lt (c := 0) vl0 vl1 (by omega) (by omega) c4)]
        · rw [if_neg (show ¬ ii vl < (0 : Int32) from n_lt (c := 0) vl0 vl1 (by omega) (by omega) c4), if_neg (show ¬ ii vl ≤ (999 : Int32) from n_le (c := 999) vl0 vl1 (by omega) (by omega) (by omega))]
    · rw [if_neg c2, if_neg z1_, if_neg c2, if_pos z0_]
      exact ⟨_, C, M, rfl, rfl, hI⟩
  · rw [if_neg c1, if_pos z0_]
    refine ⟨_, C, M, ?_, rfl, hI⟩
    by_cases c4 : kd < 0
    · rw [if_pos (show ii kd < (0 : Int32) from p_lt (c := 0) kd0 kd1 (by omega) (by omega) c4)]
    · rw [if_neg (show ¬ ii kd < (0 : Int32) from n_lt (c := 0) kd0 kd1 (by omega) (by omega) c4), if_pos (show (5 : Int32) ≤ ii kd from p_le (k := 5) (by omega) (by omega) kd0 kd1 (by omega))]
theorem sq_open {o : Bool} {s : SX3} {v : Tr} {a b m d c f x y : Int} {xs : List Int} {q : Nat} (h : sq n o s M v a b m d c f x y xs q) {k : Int} (hk : k ∈ ks v) : o = true := by
  cases o with
  | true => rfl
  | false =>
    have := (h.2.1.2 rfl).2.2.2
    rw [this, ks_lf] at hk
    cases hk
theorem B_take (hn : 0 ≤ n ∧ n ≤ 10000) (h : Inv n C M) (a1 : Int32) : ∃ r C' M', fX5_take C a1 = some (r, C') ∧ fX6_take M a1 = some (r, M') ∧ Inv (n + 1) C' M' := by
  obtain ⟨k, rfl, k0, k1⟩ := ii_all a1
  have hI := Inv_mono h (show n ≤ n + 1 by omega)
  obtain ⟨o, g_, P, r, q', h1, h2, h3, h4, h5⟩ := h
  obtain ⟨v, a, b, m, d, c, f, x, y, xs, q, hs⟩ := id h4
  unfold fX5_take fX6_take
  rw [cv_bd_eq (is6 hs k0 k1)]
  by_cases z : k ∈ ks v
  · have ho := sq_open hs z
    subst ho
    obtain ⟨⟨t1, t2, t3, t4, t5, t6⟩, g2, g3, g4, -⟩ := id hs
    have kb := rc_in t2 z
    have g := ii_in (k := k) (n := 100) kb.1 kb.2 (by omega)
    have kq := g4.1 k kb.1 kb.2
    have kk := kvq g4.1 kb.1 kb.2
    have vv := kvq g4.2 kb.1 kb.2
    simp only [cv_gd_pos g, cv_lt_eq, ii_l0, ii_l1, ii_l2, ii_l40, ii_l100, ii_neg, ii_l3, ii_l4, ii_l5, ii_l6, ii_l7, ii_l8, ii_l10, ii_l31, ii_l44, ii_l48, ii_l52, ii_l54, ii_l57, ii_l59, ii_l60, ii_l61, ii_l99, ii_l101, ii_l102, ii_l103, ii_l104, ii_l108, ii_l110, ii_l115, ii_l126, ii_l999, ii_l100000, ii_l65536]
    rw [cv_bd_eq (has_yes t1 z), if_neg i0, if_pos z, if_neg i0, kk, rd_ii (gX6_kinds M) kb.1 (by omega), cv_bd_eq (able0 kq.2)]
    by_cases z1 : rd (gX6_kinds M) k = 1 ∨ rd (gX6_kinds M) k = 4
    · rw [if_pos z1, if_pos rfl]
      refine ⟨_, C, M, rfl, ?_, hI⟩
      rcases z1 with z1 | z1
      · rw [if_pos (by rw [z1])]
      · rw [if_neg (i_ne (by omega) (by omega) (by omega) (by omega) (by omega)), if_pos (by rw [z1])]
    · obtain ⟨s', M', e1, e2, e3, e4, x', y', xs', e5⟩ := take_out hn hs z
      rw [if_neg z1, if_neg i0, cv_bd_eq e1, if_neg (i_ne (by omega) (by omega) (by omega) (by omega) (by omega)), if_neg (i_ne (by omega) (by omega) (by omega) (by omega) (by omega)), cv_bd_eq e2, e4, vv]
      refine ⟨_, sX5_now C s', M', rfl, rfl, ?_⟩
      exact Inv_keep (by omega) h1 h2 h3 h5 rfl rfl rfl rfl rfl e3 ⟨_, _, _, _, _, _, _, _, _, _, _, e5⟩
  · rw [cv_bd_eq (has_no hs.1.1 k0 k1 z), if_pos z0_, if_neg z, if_pos z0_]
    exact ⟨_, C, M, rfl, rfl, hI⟩
theorem kv_upd1 {f g : Nat → Int32} {hi : Int} (h : kv f g hi) (hh : hi ≤ 1000) {k w : Int} (k0 : 0 ≤ k) (k1 : k < 100) (w0 : 0 ≤ w) (w1 : w ≤ hi) (e : rd g k = w) : kv (upd f (ii k).toNatClampNeg (ii w)) g hi := fun j j0 j1 => by
  rw [rd_upd f k0 (by omega) (by omega) (by omega) j0]
  by_cases z : j = k
  · rw [if_pos z, z, e]; exact ⟨rfl, w0, w1⟩
  · rw [if_neg z]; exact h j j0 j1
theorem B_tell (hn : 0 ≤ n ∧ n ≤ 10000) (h : Inv n C M) (a1 : Int32) : ∃ r C' M', fX5_tell C a1 = some (r, C') ∧ fX6_tell M a1 = some (r, M') ∧ Inv (n + 1) C' M' := by
  obtain ⟨k, rfl, k0, k1⟩ := ii_all a1
  have hI := Inv_mono h (show n ≤ n + 1 by omega)
  obtain ⟨o, g_, P, r, q', h1, h2, h3, h4, h5⟩ := h
  obtain ⟨v, a, b, m, d, c, f, x, y, xs, q, hs⟩ := id h4
  unfold fX5_tell fX6_tell
  rw [cv_bd_eq (is6 hs k0 k1)]
  by_cases z : k ∈ ks v
  · have ho := sq_open hs z
    subst ho
    obtain ⟨t, g2, g3, g4, gm, gl, gq⟩ := id hs
    have kb := rc_in t.2.1 z
    have g := ii_in (k := k) (n := 100) kb.1 kb.2 (by omega)
    have kq := g4.1 k kb.1 kb.2
    have kk := kvq g4.1 kb.1 kb.2
    have vq := g4.2 k kb.1 kb.2
    have vv := kvq g4.2 kb.1 kb.2
    simp only [cv_gd_pos g, cv_lt_eq, ii_l0, ii_l1, ii_l2, ii_l40, ii_l100, ii_neg, ii_l3, ii_l4, ii_l5, ii_l6, ii_l7, ii_l8, ii_l10, ii_l31, ii_l44, ii_l48, ii_l52, ii_l54, ii_l57, ii_l59, ii_l60, ii_l61, ii_l99, ii_l101, ii_l102, ii_l103, ii_l104, ii_l108, ii_l110, ii_l115, ii_l126, ii_l999, ii_l100000, ii_l65536]
    rw [cv_bd_eq (has_yes t.1 z), if_neg i0, if_pos z, if_neg i0, vv, kk, rd_ii (gX6_kinds M) kb.1 (by omega), rd_ii (gX6_values M) kb.1 (by omega)]
    obtain ⟨w, hw⟩ : ∃ w, w = rd (gX6_values M) k := ⟨_, rfl⟩
    rw [← hw] at vq ⊢
    by_cases z2 : rd (gX6_kinds M) k = 2
    · rw [if_pos (by rw [z2]), if_pos (by rw [z2]), ii_add, cv_min_ii (by omega) (by omega) (by omega) (by omega)]
      have n3 : ¬ gX6_kinds M (ii k).toNatClampNeg = ii 3 := by
        rw [rd_ii (gX6_kinds M) kb.1 (by omega), z2]
        exact i_ne (by omega) (by omega) (by omega) (by omega) (by omega)
      by_cases y9 : 999 ≤ w
      · rw [if_pos ((ii_le (by omega) (by omega) (by omega) (by omega)).mpr y9), cv_bd_some, if_neg n3]
        refine ⟨_, _, M, rfl, rfl, ?_⟩
        refine Inv_keep (by omega) h1 h2 h3 h5 rfl rfl rfl rfl rfl rfl (sr_mono (n := n) ⟨v, a, b, m, d, c, f, x, y, xs, q, t, g2, g3, ⟨g4.1, ?_⟩, gm, gl, gq⟩ (by omega))
        exact kv_upd1 g4.2 (by omega) kb.1 kb.2 (by omega) (by omega) (by omega)
      · rw [if_neg (fun t => y9 ((ii_le (by omega) (by omega) (by omega) (by omega)).mp t)), cv_bd_some, if_neg (show ¬ gX6_kinds (sX6_values M (upd (gX6_values M) (ii k).toNatClampNeg (ii (w + 1)))) (ii k).toNatClampNeg = ii 3 from n3)]
        refine ⟨_, _, _, rfl, rfl, ?_⟩
        refine Inv_keep (by omega) h1 h2 h3 h5 rfl rfl rfl rfl rfl rfl (sr_mono (n := n) ⟨v, a, b, m, d, c, f, x, y, xs, q, t, g2, g3, ⟨g4.1, ?_⟩, gm, gl, gq⟩ (by omega))
        show kv (upd (gX3_values (gX5_now C)) (ii k).toNatClampNeg (ii (min (w + 1) 999))) (upd (gX6_values M) (ii k).toNatClampNeg (ii (w + 1))) 999
        rw [show min (w + 1) 999 = w + 1 by omega]
        exact kv_upd g4.2 (by omega) kb.1 kb.2 (by omega) (by omega)
    · have e2 : ¬ ii (rd (gX6_kinds M) k) = ii 2 := i_ne (by omega) (by omega) (by omega) (by omega) z2
      rw [if_neg e2, if_neg e2, cv_bd_some, rd_ii (gX6_kinds M) kb.1 (by omega)]
      by_cases z3 : rd (gX6_kinds M) k = 3
      · obtain ⟨s', M', e1, e2, e3, e4, x', y', xs', e5⟩ := take_out hn hs z
        rw [if_pos (by rw [z3]), if_pos (by rw [z3]), cv_bd_eq e1, cv_bd_eq e2]
        refine ⟨_, sX5_now C s', M', rfl, rfl, ?_⟩
        exact Inv_keep (by omega) h1 h2 h3 h5 rfl rfl rfl rfl rfl e3 ⟨_, _, _, _, _, _, _, _, _, _, _, e5⟩
      · have e3 : ¬ ii (rd (gX6_kinds M) k) = ii 3 := i_ne (by omega) (by omega) (by omega) (by omega) z3
        rw [if_neg e3, if_neg e3]
        exact ⟨_, C, M, rfl, rfl, hI⟩
  · rw [cv_bd_eq (has_no hs.1.1 k0 k1 z), if_pos z0_, if_neg z, if_pos z0_]
    exact ⟨_, C, M, rfl, rfl, hI⟩
theorem lsn_s (v : Tr) {c : Int} (c0 : 0 ≤ c) : lsn v (c + 1) = lsn v c + (if c ∈ ks v then 1 else 0) := by
  unfold lsn
  rw [show (c + 1).toNat = c.toNat + 1 by omega, fil_add, List.length_append, fil_s, fil_0, show (0 : Int) + (c.toNat : Int) = c by omega]
  by_cases z : c ∈ ks v
  · rw [if_pos (decide_eq_true z), if_pos z]; simp
  · rw [if_neg (fun y => z (of_decide_eq_true y)), if_neg z]; simp
theorem lsn_0 (v : Tr) : lsn v 0 = 0 := rfl
theorem lsn_100 {v : Tr} (w : tr_wf v) (hb : bst (-1) 100 v) : lsn v 100 = sz v := by
  unfold lsn
  have := fil_ks (P := fun j => decide (j ∈ ks v)) v w (-1) 100 (by omega) hb (fun k _ _ => by rw [decide_eq_true_iff])
  rw [show ((100 : Int)).toNat = (100 - -1 - 1 : Int).toNat from rfl, show (0 : Int) = -1 + 1 from rfl, this, sz_ks v w]
theorem at_L {T : SX4} {v : Tr} (hT : gX3_tree (gX5_now C) = T) (h1 : ct T v) (h2 : rc M 0 v) {k : Int} (k0 : 0 ≤ k) (k1 : k < 2147483648) : ∀ (m n : Nat) (c : Int), 0 ≤ c → c + m = 100 → lsn v c ≤ k → m < n → (sz v ≤ k → fX5_at_L4 C n (ii (k - lsn v c)) (ii c) = some (ii (-101))) ∧ (k < sz v → ∃ r, fX5_at_L4 C n (ii (k - lsn v c)) (ii c) = some r ∧ fX6_at_L30 M (ii k) n (ii c) = some r)
  | 0, n, c, h3, h4, h5, hn => by
    obtain ⟨n, rfl⟩ : ∃ m, n = m + 1 := ⟨n - 1, by omega⟩
    have e := lsn_100 h1.1 h1.2.1
    rw [show c = 100 by omega] at h5 ⊢
    refine ⟨fun _ => ?_, fun z => by omega⟩
    unfold fX5_at_L4
    rw [if_pos (show (100 : Int32) ≤ ii 100 by decide)]
    rfl
  | m + 1, n, c, h3, h4, h5, hn => by
    obtain ⟨n, rfl⟩ : ∃ m, n = m + 1 := ⟨n - 1, by omega⟩
    have hs := lsn_s v h3
    have l0 : 0 ≤ lsn v c := by unfold lsn; omega
    have hl := less6 h2 h3 (show c ≤ 100 by omega)
    unfold fX5_at_L4 fX6_at_L30
    simp (disch := omega) only [ii_l0, ii_l1, ii_l2, ii_l40, ii_l100, ii_neg, ii_l3, ii_l4, ii_l5, ii_l6, ii_l7, ii_l8, ii_l10, ii_l31, ii_l44, ii_l48, ii_l52, ii_l54, ii_l57, ii_l59, ii_l60, ii_l61, ii_l99, ii_l101, ii_l102, ii_l103, ii_l104, ii_l108, ii_l110, ii_l115, ii_l126, ii_l999, ii_l100000, ii_l65536, ii_le, ii_lt, cv_lt_eq]
    rw [if_neg (show ¬ 100 ≤ c by omega), if_neg (show ¬ k - lsn v c < 0 by omega), cv_gd_pos (ii_in h3 (by omega) (by omega)), th6 h2 h3 (by omega), hT]
    by_cases z : c ∈ ks v
    · rw [if_pos z] at hs
      have lb : lsn v c ≤ 100 := by
        have := fil_len (fun j => decide (j ∈ ks v)) c.toNat 0
        unfold lsn; omega
      rw [cv_bd_eq (has_yes h1 z), if_neg i0, if_pos z, if_neg i0, cv_bd_eq hl]
      by_cases y : k - lsn v c = 0
      · rw [if_pos (by rw [y]), if_pos ((ii_le (by omega) (by omega) (by omega) (by omega)).mpr (by omega))]
        have e := lsn_100 h1.1 h1.2.1
        refine ⟨fun q => ?_, fun _ => ⟨_, rfl, rfl⟩⟩
        exfalso
        have mono : ∀ (j : Nat) (i : Int), 0 ≤ i → lsn v i ≤ lsn v (i + j) := by
          intro j
          induction j with
          | zero => intro i _; rw [show i + ((0 : Nat) : Int) = i by omega]; omega
          | succ j ih =>
            intro i hi
            have a := ih i hi
            have b := lsn_s v (show 0 ≤ i + j by omega)
            rw [show i + ((j + 1 : Nat) : Int) = i + j + 1 by omega, b]
            split <;> omega
        have := mono m (c + 1) (by omega)
        rw [show c + 1 + (m : Int) = 100 by omega, e, hs] at this
        omega
      · obtain ⟨e1, e2⟩ := at_L hT h1 h2 k0 k1 m n (c + 1) (by omega) (by omega) (by omega) (by omega)
        rw [hs, show k - (lsn v c + 1) = k - lsn v c + -1 by omega] at e1 e2
        rw [if_neg (fun t => y ((ii_eq (by omega) (by omega) (by omega) (by omega)).mp t)), if_neg (fun t => by rw [ii_le (by omega) (by omega) (by omega) (by omega)] at t; omega), ii_add, ii_add]
        exact ⟨e1, e2⟩
    · rw [if_neg z, Int.add_zero] at hs
      obtain ⟨e1, e2⟩ := at_L hT h1 h2 k0 k1 m n (c + 1) (by omega) (by omega) (by omega) (by omega)
      rw [hs] at e1 e2
      rw [cv_bd_eq (has_no h1 (by omega) (by omega) z), if_pos rfl, if_neg z, if_pos rfl, ii_add]
      exact ⟨e1, e2⟩
theorem B_at (hn : 0 ≤ n ∧ n ≤ 10000) (h : Inv n C M) (a1 : Int32) : ∃ r, fX5_at C a1 = some r ∧ fX6_at M a1 = some r := by
  obtain ⟨k, rfl, k0, k1⟩ := ii_all a1
  obtain ⟨o, g, P, r, q', h1, h2, h3, ⟨v, a, b, m, d, c, f, x, y, xs, q, hs⟩, h5⟩ := h
  obtain ⟨⟨t1, t2, -⟩, ho, -⟩ := id hs
  have s0 := sz_nonneg v t1.1
  have s1 := t1.2.2.1
  have gt := ig2 (t := 0) (Or.inl rfl)
  have neg : k < 0 → fX5_at C (ii k) = some (ii (-101)) := fun z => by
    unfold fX5_at
    show fX5_at_L4 C (255 + 1) (ii k) 0 = _
    unfold fX5_at_L4
    rw [if_neg (by decide), if_pos (show ii k < (0 : Int32) from (ii_lt (b := 0) (by omega) (by omega) (by omega) (by omega)).mpr z)]
    rfl
  have pos : 0 ≤ k → _ := fun z => at_L (C := C) rfl t1 t2 z k1 100 256 0 (by omega) (by omega) (by rw [lsn_0]; exact z) (by omega)
  rw [lsn_0, Int.sub_zero] at pos
  unfold fX6_at
  cases o with
  | false =>
    have e := (ho.2 rfl).2.2.2
    rw [cv_bd_eq (lacksF hs), if_neg z1_]
    refine ⟨ii (-101), ?_, rfl⟩
    by_cases z : k < 0
    · exact neg z
    · exact (pos (by omega)).1 (by rw [e, sz_lf]; omega)
  | true =>
    simp only [ii_l0, ii_l1, ii_l2, ii_l40, ii_l100, ii_neg]
    rw [cv_bd_eq (lacksT hs), if_pos rfl, cv_gd_pos gt, many6 t2, ii_sub, cv_bd_eq (in6 (lo := 0) (hi := sz v - 1) k0 k1 rfl (by rw [Int32.toInt_toInt64, ii_toInt (by omega) (by omega)]))]
    by_cases z : k < 0
    · rw [if_neg (show ¬ (0 ≤ k ∧ k ≤ sz v - 1) by omega), if_pos rfl]
      exact ⟨_, neg z, rfl⟩
    · by_cases w : k < sz v
      · obtain ⟨r, e1, e2⟩ := (pos (by omega)).2 w
        rw [if_pos (show 0 ≤ k ∧ k ≤ sz v - 1 by omega), if_neg i0, cv_bd_eq e2]
        exact ⟨r, e1, rfl⟩
      · rw [if_neg (show ¬ (0 ≤ k ∧ k ≤ sz v - 1) by omega), if_pos rfl]
        exact ⟨_, (pos (by omega)).1 (by omega), rfl⟩
theorem ledgerOf_eq {v : Tr} {a b m d c f x y : Int} {xs : List Int} {q : Nat} (hs : sq n true (gX5_now C) M v a b m d c f x y xs q) (ho : gX5_open C = fg true) {k : Int} (k0 : 0 ≤ k) (k1 : k ≤ 6) : ∃ r C', fX5_ledger C (ii k) = some (r, C') ∧ fX6_ledgerOf M (ii k) = some r ∧ cw C C' := by
  obtain ⟨⟨t1, t2, t3, t4, t5, t6⟩, g2, g3, g4, ⟨e1, e2, e3, e4, -⟩, -⟩ := id hs
  obtain ⟨hr, -⟩ := g2.1 rfl
  have s0 := sz_nonneg v t1.1
  have s1 := t1.2.2.1
  have gt := ig2 (t := 0) (Or.inl rfl)
  obtain ⟨w, et⟩ := tall_eq t1
  have lk := limit6 (n := sz v) (ab0 t5) hr (by omega) (by omega)
  have lk' := fX4_limit_eq (gX3_tree (gX5_now C)) t3.1 t3.2.1 hr (n := sz v) (by omega) (by omega)
  unfold fX5_ledger fX6_ledgerOf
  rw [ho, t1.2.2.2.2.2.2, if_neg (show ¬ ii k < (0 : Int32) from fun t => by have := (ii_lt (b := 0) (by omega) (by omega) (by omega) (by omega)).mp t; omega), if_pos (show ii k ≤ (6 : Int32) from (ii_le (b := 6) (by omega) (by omega) (by omega) (by omega)).mpr k1), if_neg fgT]
  simp only [ii_l0, ii_l1, ii_l2, ii_l40, ii_l100, ii_neg]
  rw [cv_gd_pos gt, cv_gd_pos gt, cv_gd_pos gt, cv_gd_pos gt, many6 t2, e1, e2, e3, e4, t3.2.2.1, t3.2.2.2.1, t3.2.2.2.2, t4.1, t4.2.1, t4.2.2]
  have hk : k = 0 ∨ k = 1 ∨ k = 2 ∨ k = 3 ∨ k = 4 ∨ k = 5 ∨ k = 6 := by omega
  rcases hk with rfl | rfl | rfl | rfl | rfl | rfl | rfl
  · rw [if_pos rfl, if_pos rfl, cv_bd_eq et, cv_bd_eq (tall6 t2 (Or.inl rfl)), cv_lt_eq]
    exact ⟨_, _, rfl, rfl, rfl, rfl, rfl, rfl, rfl, w, rfl⟩
  · rw [if_neg i0, if_neg i0, if_pos rfl, if_pos rfl, cv_bd_eq lk, cv_bd_eq lk']
    exact ⟨_, C, rfl, rfl, cw_refl C⟩
  · exact ⟨_, C, rfl, rfl, cw_refl C⟩
  · refine ⟨ii (x + 100000), C, ?_, ?_, cw_refl C⟩
    · show some (ii x + ii 100000, C) = _
      rw [ii_add]
    · show some (ii 100000 + ii x) = _
      rw [ii_add, Int.add_comm]
  · refine ⟨ii (y + 100000), C, ?_, ?_, cw_refl C⟩
    · show some (ii y + ii 100000, C) = _
      rw [ii_add]
    · show some (ii 100000 + ii y) = _
      rw [ii_add, Int.add_comm]
  · exact ⟨_, C, rfl, rfl, cw_refl C⟩
  · exact ⟨_, C, rfl, rfl, cw_refl C⟩
theorem B_ledger (hn : 0 ≤ n ∧ n ≤ 10000) (h : Inv n C M) (a1 : Int32) : ∃ r C', fX5_ledger C a1 = some (r, C') ∧ fX6_ledger M a1 = some r ∧ Inv n C' M := by
  obtain ⟨k, rfl, k0, k1⟩ := ii_all a1
  have hI := h
  obtain ⟨o, g, P, r, q', h1, h2, h3, ⟨v, a, b, m, d, c, f, x, y, xs, q, hs⟩, h5⟩ := h
  unfold fX6_ledger
  rw [cv_bd_eq (in6 (lo := 0) (hi := 6) k0 k1 rfl rfl)]
  by_cases z : 0 ≤ k ∧ k ≤ 6
  · rw [if_pos z, if_neg z1_]
    cases o with
    | false =>
      rw [cv_bd_eq (lacksF hs), if_neg z1_]
      refine ⟨_, C, ?_, rfl, hI⟩
      unfold fX5_ledger
      rw [h1.1, if_neg (show ¬ ii k < (0 : Int32) from fun t => by have := (ii_lt (b := 0) (by omega) (by omega) (by omega) (by omega)).mp t; omega), if_pos (show ii k ≤ (6 : Int32) from (ii_le (b := 6) (by omega) (by omega) (by omega) (by omega)).mpr z.2), if_pos fgF]
    | true =>
      obtain ⟨r, C', e1, e2, e3⟩ := ledgerOf_eq hs h1.1 z.1 z.2
      rw [cv_bd_eq (lacksT hs), if_pos z0_, cv_bd_eq e2]
      exact ⟨r, C', e1, rfl, Inv_cw hI e3 (sc_refl M)⟩
  · rw [if_neg z, if_pos z0_]
    refine ⟨_, C, ?_, rfl, hI⟩
    unfold fX5_ledger
    by_cases c : k < 0
    · rw [if_pos (show ii k < (0 : Int32) from (ii_lt (b := 0) (by omega) (by omega) (by omega) (by omega)).mpr c)]
    · rw [if_neg (show ¬ ii k < (0 : Int32) from fun t => by have := (ii_lt (b := 0) (by omega) (by omega) (by omega) (by omega)).mp t; omega), if_neg (show ¬ ii k ≤ (6 : Int32) from fun t => by have := (ii_le (b := 6) (by omega) (by omega) (by omega) (by omega)).mp t; omega)]
end
