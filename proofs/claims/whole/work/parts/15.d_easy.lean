/-! both: letters, looks, counts -/
section
variable {n : Int} {C : SX5} {M : SX6}
theorem B_letter (hn : 0 ≤ n ∧ n ≤ 10000) (h : Inv n C M) (a1 : Int32) : ∃ r C' M', fX5_letter C a1 = some (r, C') ∧ fX6_letter M a1 = some (r, M') ∧ Inv (n + 1) C' M' := by
  obtain ⟨k, rfl, k0, k1⟩ := ii_all a1
  have hI := Inv_mono h (show n ≤ n + 1 by omega)
  obtain ⟨o, g_, P, r, q', h1, ⟨p1, p2, p3, p4, p5⟩, h3, h4, h5⟩ := h
  unfold fX5_letter fX6_letter
  rw [cv_bd_eq (in6 (lo := 1) (hi := 126) k0 k1 rfl rfl)]
  simp (disch := omega) only [ii_l0, ii_l1, ii_l2, ii_l40, ii_l100, ii_neg, ii_l3, ii_l4, ii_l5, ii_l6, ii_l7, ii_l8, ii_l10, ii_l31, ii_l44, ii_l48, ii_l52, ii_l54, ii_l57, ii_l59, ii_l60, ii_l61, ii_l99, ii_l101, ii_l102, ii_l103, ii_l104, ii_l108, ii_l110, ii_l115, ii_l126, ii_l999, ii_l100000, ii_l65536, ii_lt, ii_le, cv_lt_eq]
  by_cases c1 : k < 1
  · rw [if_pos c1, if_neg (show ¬ (1 ≤ k ∧ k ≤ 126) by omega), if_pos rfl]
    exact ⟨_, C, M, rfl, rfl, hI⟩
  · rw [if_neg c1]
    by_cases c2 : k ≤ 126
    · rw [if_pos c2, if_pos (show 1 ≤ k ∧ k ≤ 126 by omega), if_neg i0]
      unfold fX1_append
      rw [p1, p2]
      simp (disch := omega) only [ii_l0, ii_l1, ii_l2, ii_l40, ii_l100, ii_neg, ii_l3, ii_l4, ii_l5, ii_l6, ii_l7, ii_l8, ii_l10, ii_l31, ii_l44, ii_l48, ii_l52, ii_l54, ii_l57, ii_l59, ii_l60, ii_l61, ii_l99, ii_l101, ii_l102, ii_l103, ii_l104, ii_l108, ii_l110, ii_l115, ii_l126, ii_l999, ii_l100000, ii_l65536, ii_lt, ii_eq, cv_lt_eq]
      by_cases c3 : P < 54
      · have g := ii_in (k := P) (n := 54) p3 c3 (by omega)
        rw [if_pos c3, cv_gd_pos g, cv_bd_some, if_neg i0, if_neg (show ¬ P = 54 by omega), cv_gd_pos g]
        refine ⟨ii (P + 1), sX5_page C (sX1_length (sX1_letters (gX5_page C) (upd (gX1_letters (gX5_page C)) (ii P).toNatClampNeg (ii k))) (ii (P + 1))), sX6_pageMany (sX6_page M (upd (gX6_page M) (ii P).toNatClampNeg (ii k))) (ii (P + 1)), ?_, ?_, ?_⟩
        · show some (gX1_length (gX5_page C) + ii 1, sX5_page C (sX1_length (sX1_letters (gX5_page C) (upd (gX1_letters (gX5_page C)) (ii P).toNatClampNeg (ii k))) (gX1_length (gX5_page C) + ii 1))) = _
          rw [p1, ii_add]
        · show some (gX6_pageMany M + ii 1, sX6_pageMany (sX6_page M (upd (gX6_page M) (ii P).toNatClampNeg (ii k))) (gX6_pageMany M + ii 1)) = _
          rw [p2, ii_add]
        · refine ⟨o, g_, P + 1, r, q', h1, ⟨?_, rfl, by omega, by omega, fun j j0 j1 => ?_⟩, ⟨h3.1, h3.2.1, h3.2.2.1, h3.2.2.2.1, by have := h3.2.2.2.2.1; omega, h3.2.2.2.2.2⟩, sr_mono (sr_eqv h4 ⟨zo_refl M, zn_refl M, fun _ _ _ => ⟨rfl, rfl⟩, ⟨rfl, rfl, rfl⟩, fun _ _ _ => rfl, ⟨rfl, rfl⟩, fun _ _ _ => rfl⟩) (by omega), fun z => sr_mono (sr_eqv (h5 z) (kr_eqv2 rfl)) (by omega)⟩
          · rfl
          · show rd (upd (gX1_letters (gX5_page C)) (ii P).toNatClampNeg (ii k)) j = rd (upd (gX6_page M) (ii P).toNatClampNeg (ii k)) j ∧ 1 ≤ rd (upd (gX6_page M) (ii P).toNatClampNeg (ii k)) j ∧ rd (upd (gX6_page M) (ii P).toNatClampNeg (ii k)) j ≤ 126
            rw [rd_at p3 (by omega) (by omega) (by omega) j0, rd_at p3 (by omega) (by omega) (by omega) j0]
            by_cases z : j = P
            · rw [if_pos z, if_pos z]; omega
            · rw [if_neg z, if_neg z]; exact p5 j j0 (by omega)
      · rw [if_neg c3, cv_bd_some, if_pos (show ii 0 = ii 0 from rfl), if_pos (show P = 54 by omega)]
        exact ⟨_, _, M, rfl, rfl, hI⟩
    · rw [if_neg c2, if_neg (show ¬ (1 ≤ k ∧ k ≤ 126) by omega), if_pos rfl]
      exact ⟨_, C, M, rfl, rfl, hI⟩
theorem B_blank (hn : 0 ≤ n ∧ n ≤ 10000) (h : Inv n C M) : ∃ r C' M', fX5_blank C = some (r, C') ∧ fX6_blank M = some (r, M') ∧ Inv (n + 1) C' M' := by
  obtain ⟨o, g, P, r, q', h1, ⟨p1, p2, p3, p4, p5⟩, h3, h4, h5⟩ := h
  unfold fX5_blank fX6_blank
  simp only [cv_lt_eq]
  rw [p1, p2]
  refine ⟨_, _, _, rfl, rfl, o, g, 0, r, q', h1, ⟨rfl, rfl, by omega, by omega, fun j j0 j1 => by omega⟩, ⟨h3.1, h3.2.1, h3.2.2.1, h3.2.2.2.1, by have := h3.2.2.2.2.1; omega, h3.2.2.2.2.2⟩, sr_mono (sr_eqv h4 ⟨zo_refl M, zn_refl M, fun _ _ _ => ⟨rfl, rfl⟩, ⟨rfl, rfl, rfl⟩, fun _ _ _ => rfl, ⟨rfl, rfl⟩, fun _ _ _ => rfl⟩) (by omega), fun z => sr_mono (sr_eqv (h5 z) (kr_eqv2 rfl)) (by omega)⟩
theorem kvq {f g : Nat → Int32} {hi k : Int} (h : kv f g hi) (k0 : 0 ≤ k) (k1 : k < 100) : f (ii k).toNatClampNeg = g (ii k).toNatClampNeg := by
  rw [rd_ii f k0 (by omega), rd_ii g k0 (by omega), (h k k0 k1).1]
theorem th6 {v : Tr} (h : rc M 0 v) {k : Int} (k0 : 0 ≤ k) (k1 : k < 100) : gX6_there M (ii k).toNatClampNeg = ii (if k ∈ ks v then 1 else 0) := by
  obtain ⟨_, _, _, L, R, U, H, ha, _, _, hh⟩ := h
  have := ar_h ha (Or.inl rfl) k0 k1
  rw [show (100 : Int) * 0 + k = k by omega] at this
  rw [this, hh k k0 k1]
theorem many6 {v : Tr} (h : rc M 0 v) : gX6_many M (ii 0).toNatClampNeg = ii (sz v) := by
  obtain ⟨_, _, _, L, R, U, H, ha, _⟩ := h
  exact ar_n ha (Or.inl rfl)
theorem is6 {o : Bool} {s : SX3} {v : Tr} {a b m d c f x y : Int} {xs : List Int} {q : Nat} (h : sq n o s M v a b m d c f x y xs q) {k : Int} (k0 : -2147483648 ≤ k) (k1 : k < 2147483648) : fX6_isThere M (ii k) = some (if k ∈ ks v then ii 1 else ii 0) := by
  have h' := h
  obtain ⟨⟨t1, t2, -⟩, ho, -⟩ := h
  unfold fX6_isThere
  cases o with
  | false =>
    have := (ho.2 rfl).2.2.2
    rw [cv_bd_eq (lacksF h'), if_neg z1_, this, ks_lf, if_neg (by simp)]
    rfl
  | true =>
    rw [cv_bd_eq (lacksT h'), if_pos z0_, cv_bd_eq (in6 (lo := 0) (hi := 99) k0 k1 rfl rfl)]
    by_cases c : 0 ≤ k ∧ k ≤ 99
    · rw [if_pos c, if_neg z1_, cv_gd_pos (ii_in c.1 (by omega) (by omega)), th6 t2 c.1 (by omega)]
      by_cases z : k ∈ ks v
      · rw [if_pos z, if_pos z, if_pos (show ii 1 = (1 : Int32) from rfl)]; rfl
      · rw [if_neg z, if_neg z, if_neg (show ¬ ii 0 = (1 : Int32) by decide)]; rfl
    · rw [if_neg c, if_pos z0_, if_neg (fun z => c (by have := rc_in t2 z; omega))]; rfl
theorem less_L {v : Tr} (h : rc M 0 v) {k : Int} (hk : k ≤ 100) : ∀ (m n : Nat) (c s : Int), 0 ≤ c → c + m = k → 0 ≤ s → s + m ≤ 1000 → m < n → fX6_lessMany_L4 M (ii k) n (ii s) (ii c) = some (ii (s + (fil (fun j => decide (j ∈ ks v)) c m).length))
  | 0, n, c, s, h1, h2, h3, h4, hn => by
    obtain ⟨n, rfl⟩ : ∃ m, n = m + 1 := ⟨n - 1, by omega⟩
    unfold fX6_lessMany_L4
    rw [if_pos ((ii_le (by omega) (by omega) (by omega) (by omega)).mpr (by omega)), fil_0]
    simp
  | m + 1, n, c, s, h1, h2, h3, h4, hn => by
    obtain ⟨n, rfl⟩ : ∃ m, n = m + 1 := ⟨n - 1, by omega⟩
    unfold fX6_lessMany_L4
    simp (disch := omega) only [ii_l0, ii_l1, ii_l2, ii_l40, ii_l100, ii_neg, ii_le, cv_lt_eq]
    rw [if_neg (by omega), cv_gd_pos (ii_in h1 (by omega) (by omega)), th6 h h1 (by omega), fil_s]
    by_cases z : c ∈ ks v
    · rw [if_pos z, ii_add, ii_add, less_L h hk m n (c + 1) (s + 1) (by omega) (by omega) (by omega) (by omega) (by omega), if_pos (decide_eq_true z), List.length_cons]
      congr 2
      omega
    · rw [if_neg z, ii_add, ii_add, less_L h hk m n (c + 1) (s + 0) (by omega) (by omega) (by omega) (by omega) (by omega), if_neg (fun y => z (of_decide_eq_true y)), Int.add_zero]
theorem less6 {v : Tr} (h : rc M 0 v) {k : Int} (k0 : 0 ≤ k) (k1 : k ≤ 100) : fX6_lessMany M (ii k) = some (ii (lsn v k)) := by
  unfold fX6_lessMany lsn
  rw [ii_l0, cv_bd_eq (less_L h k1 k.toNat 256 0 0 (by omega) (by omega) (by omega) (by omega) (by omega)), Int.zero_add]
theorem links6 {T : SX4} {v : Tr} (h1 : ct T v) (h2 : rc M 0 v) {k : Int} (hk : k ∈ ks v) : gX4_lefts T (ii k).toNatClampNeg = gX6_left M (ii k).toNatClampNeg ∧ gX4_rights T (ii k).toNatClampNeg = gX6_right M (ii k).toNatClampNeg ∧ gX6_above M (ii k).toNatClampNeg = ii (pa k (-1) v) := by
  have k0 := rc_in h2 hk
  obtain ⟨w, hb, hz, L, R, U, H, ha, hp, hu, hh⟩ := h2
  obtain ⟨l, r, e, wl, wr⟩ := at_some v w _ _ k hb hk
  have r1 := at_rp (L := L) (R := R) k v w hp
  have r2 := at_rp (L := rd (gX4_lefts T)) (R := rd (gX4_rights T)) k v w h1.2.2.2.2.1
  rw [e] at r1 r2
  obtain ⟨a1, a2, -⟩ := rp_nd.mp r1
  obtain ⟨b1, b2, -⟩ := rp_nd.mp r2
  have c1 := ar_l ha (Or.inl rfl) k0.1 k0.2
  have c2 := ar_r ha (Or.inl rfl) k0.1 k0.2
  have c3 := ar_u ha (Or.inl rfl) k0.1 k0.2
  rw [show (100 : Int) * 0 + k = k by omega] at c1 c2 c3
  rw [c1, c2, c3, qX4_lefts T k0.1 (by omega), qX4_rights T k0.1 (by omega), b1, b2, a1, a2, ra_pa U k v w _ _ _ hb hk hu]
  exact ⟨rfl, rfl, rfl⟩
/-- the class, its tree's way aside -/
def cw (C C' : SX5) : Prop := gX5_open C' = gX5_open C ∧ gX5_imaged C' = gX5_imaged C ∧ gX5_page C' = gX5_page C ∧ gX5_timesRead C' = gX5_timesRead C ∧ gX5_kept C' = gX5_kept C ∧ ∃ f, gX5_now C' = sX3_tree (gX5_now C) (sX4_way (gX3_tree (gX5_now C)) f)
theorem sr_way {o : Bool} {s : SX3} (h : sr n o s M) (f : Nat → Int32) : sr n o (sX3_tree s (sX4_way (gX3_tree s) f)) M := by
  obtain ⟨v, a, b, m, d, c, f', x, y, xs, q, hs⟩ := h
  exact ⟨v, a, b, m, d, c, f', x, y, xs, q, hs⟩
theorem cw_refl (C : SX5) : cw C C := ⟨rfl, rfl, rfl, rfl, rfl, gX4_way (gX3_tree (gX5_now C)), rfl⟩
theorem cw_trans {A B D : SX5} (h : cw A B) (g : cw B D) : cw A D := by
  obtain ⟨h1, h2, h3, h4, h5, f, h6⟩ := h
  obtain ⟨g1, g2, g3, g4, g5, f', g6⟩ := g
  exact ⟨g1.trans h1, g2.trans h2, g3.trans h3, g4.trans h4, g5.trans h5, f', by rw [g6, h6]; rfl⟩
theorem Inv_cw {C' : SX5} {M' : SX6} (h : Inv n C M) (hc : cw C C') (hs : sc M M') : Inv n C' M' := by
  obtain ⟨c1, c2, c3, c4, c5, f, c6⟩ := hc
  refine Inv_sc h hs c1 c2 c3 c4 c5 (fun _ o z => ?_)
  rw [c6]
  exact sr_way z f
theorem sq_way {o : Bool} {s : SX3} {v : Tr} {a b m d c f x y : Int} {xs : List Int} {q : Nat} (h : sq n o s M v a b m d c f x y xs q) (w : Nat → Int32) : sq n o (sX3_tree s (sX4_way (gX3_tree s) w)) M v a b m d c f x y xs q := h
/-- what an entry tells -/
theorem tell_eq {o : Bool} {v : Tr} {a b m d c f x y : Int} {xs : List Int} {q : Nat} (h : sq n o (gX5_now C) M v a b m d c f x y xs q) {k : Int} (hk : k ∈ ks v) (a2 : Int32) : ∃ r C', fX5_entry C (ii k) a2 = some (r, C') ∧ fX6_tellEntry M (ii k) a2 = some r ∧ cw C C' := by
  obtain ⟨⟨t1, t2, -⟩, -, -, h4, -⟩ := h
  have k0 := rc_in t2 hk
  have g := ii_in (k := k) (n := 100) k0.1 k0.2 (by omega)
  have g2 := ii_in (k := k) (n := 200) k0.1 (by omega) (by omega)
  obtain ⟨l1, l2, l3⟩ := links6 t1 t2 hk
  have hd := depth6 t2 (Or.inl rfl) hk
  have hz := size6 t2 (Or.inl rfl) hk
  unfold fX5_entry fX6_tellEntry
  rw [cv_bd_eq (has_yes t1 hk), if_neg z1_]
  by_cases c0 : a2 = 0
  · rw [if_pos c0, if_pos c0, cv_gd_pos g, cv_gd_pos g, kvq h4.1 k0.1 k0.2]
    exact ⟨_, C, rfl, rfl, cw_refl C⟩
  · rw [if_neg c0, if_neg c0]
    by_cases c1 : a2 = 1
    · rw [if_pos c1, if_pos c1, cv_gd_pos g, cv_gd_pos g, kvq h4.2 k0.1 k0.2]
      exact ⟨_, C, rfl, rfl, cw_refl C⟩
    · rw [if_neg c1, if_neg c1]
      by_cases c2 : a2 = 2
      · rw [if_pos c2, if_pos c2, cv_bd_eq (ct_walk t1 (by omega) (by omega)), ii_l0, cv_bd_eq hd, cv_lt_eq, ii_l1, ii_sub]
        exact ⟨_, _, rfl, rfl, rfl, rfl, rfl, rfl, rfl, _, rfl⟩
      · rw [if_neg c2, if_neg c2]
        by_cases c3 : a2 = 3
        · rw [if_pos c3, if_pos c3, cv_gd_pos g, ii_l0, cv_bd_eq hz, qX4_sizes _ k0.1 (by omega), t1.2.2.2.2.2.1 k k0.1 k0.2]
          exact ⟨_, C, rfl, rfl, cw_refl C⟩
        · rw [if_neg c3, if_neg c3]
          by_cases c4 : a2 = 4
          · rw [if_pos c4, if_pos c4, cv_gd_pos g, cv_gd_pos g2, l1]
            exact ⟨_, C, rfl, rfl, cw_refl C⟩
          · rw [if_neg c4, if_neg c4]
            by_cases c5 : a2 = 5
            · rw [if_pos c5, if_pos c5, cv_gd_pos g, cv_gd_pos g2, l2]
              exact ⟨_, C, rfl, rfl, cw_refl C⟩
            · rw [if_neg c5, if_neg c5]
              by_cases c6 : a2 = 6
              · rw [if_pos c6, if_pos c6, cv_bd_eq (above_eq t1 hk), cv_gd_pos g2, l3, cv_lt_eq]
                exact ⟨_, _, rfl, rfl, rfl, rfl, rfl, rfl, rfl, _, rfl⟩
              · rw [if_neg c6, if_neg c6]
                by_cases c7 : a2 = 7
                · rw [if_pos c7, if_pos c7, cv_bd_eq (lesser_eq t1 k0.1 (by omega)), cv_bd_eq (less6 t2 k0.1 (by omega))]
                  exact ⟨_, C, rfl, rfl, cw_refl C⟩
                · rw [if_neg c7, if_neg c7]
                  exact ⟨_, C, rfl, rfl, cw_refl C⟩
theorem B_entry (hn : 0 ≤ n ∧ n ≤ 10000) (h : Inv n C M) (a1 a2 : Int32) : ∃ r C', fX5_entry C a1 a2 = some (r, C') ∧ fX6_entry M a1 a2 = some r ∧ Inv n C' M := by
  obtain ⟨k, rfl, k0, k1⟩ := ii_all a1
  have hI := h
  obtain ⟨o, g, P, r, q', h1, h2, h3, ⟨v, a, b, m, d, c, f, x, y, xs, q, hs⟩, h5⟩ := h
  unfold fX6_entry
  rw [cv_bd_eq (is6 hs k0 k1)]
  by_cases z : k ∈ ks v
  · obtain ⟨r, C', e1, e2, e3⟩ := tell_eq hs z a2
    rw [if_pos z, if_neg z1_, cv_bd_eq e2]
    exact ⟨r, C', e1, rfl, Inv_cw hI e3 (sc_refl M)⟩
  · rw [if_neg z, if_pos z0_]
    refine ⟨_, C, ?_, rfl, hI⟩
    unfold fX5_entry
    rw [cv_bd_eq (has_no hs.1.1 k0 k1 z), if_pos z0_]
theorem B_as (hn : 0 ≤ n ∧ n ≤ 10000) (h : Inv n C M) (a1 a2 : Int32) : ∃ r, fX5_as C a1 a2 = some r ∧ fX6_as M a1 a2 = some r := by
  obtain ⟨k, rfl, k0, k1⟩ := ii_all a1
  obtain ⟨j, rfl, j0, j1⟩ := ii_all a2
  obtain ⟨o, g, P, r, q', h1, h2, h3, ⟨v, a, b, m, d, c, f, x, y, xs, q, hs⟩, h5⟩ := h
  unfold fX5_as fX6_as
  rw [cv_bd_eq (is6 hs k0 k1)]
  by_cases z : k ∈ ks v
  · have kb := rc_in hs.1.2.1 z
    have g := ii_in (k := k) (n := 100) kb.1 kb.2 (by omega)
    have kk := kvq hs.2.2.2.1.1 kb.1 kb.2
    have kr := hs.2.2.2.1.1 k kb.1 kb.2
    rw [cv_bd_eq (has_yes hs.1.1 z), if_neg z1_, if_pos z, if_neg z1_, cv_bd_eq (in6 (lo := 0) (hi := 4) j0 j1 rfl rfl), kk, rd_ii (gX6_kinds M) kb.1 (by omega), cv_gd_pos g, cv_gd_pos g, cv_gd_pos g]
    obtain ⟨t, ht⟩ : ∃ t, t = rd (gX6_kinds M) k := ⟨_, rfl⟩
    rw [← ht] at kr ⊢
    clear hs h1 h2 h3 h5 kk
    by_cases c1 : 0 ≤ j ∧ j ≤ 4
    · rw [if_pos c1]
      clear ht
      have ht : t = 0 ∨ t = 1 ∨ t = 2 ∨ t = 3 ∨ t = 4 := by omega
      have hj : j = 0 ∨ j = 1 ∨ j = 2 ∨ j = 3 ∨ j = 4 := by omega
      rcases ht with rfl | rfl | rfl | rfl | rfl <;> rcases hj with rfl | rfl | rfl | rfl | rfl <;> exact ⟨_, rfl, rfl⟩
    · rw [if_neg c1, if_pos z0_]
      refine ⟨_, ?_, rfl⟩
      by_cases c2 : j < 0
      · rw [if_pos (show ii j < (0 : Int32) from (ii_lt (b := 0) (by omega) (by omega) (by omega) (by omega)).mpr c2)]
      · rw [if_neg (show ¬ ii j < (0 : Int32) from fun t => c2 ((ii_lt (b := 0) (by omega) (by omega) (by omega) (by omega)).mp t)), if_neg (show ¬ ii j < (5 : Int32) from fun t => by have := (ii_lt (b := 5) (by omega) (by omega) (by omega) (by omega)).mp t; omega)]
  · rw [cv_bd_eq (has_no hs.1.1 k0 k1 z), if_pos z0_, if_neg z, if_pos z0_]
    exact ⟨_, rfl, rfl⟩
theorem next_L {T : SX4} {v : Tr} (hT : gX3_tree (gX5_now C) = T) (h1 : ct T v) (h2 : rc M 0 v) {k : Int} (k0 : -2147483648 ≤ k) (k1 : k < 2147483648) : ∀ (m n : Nat) (c : Int), 0 ≤ c → c + m = 100 → m < n → ∃ r, fX5_next_L12 C (ii k) n (ii c) = some r ∧ fX6_next_L12 M (ii k) n (ii c) = some r
  | 0, n, c, h3, h4, hn => by
    obtain ⟨n, rfl⟩ : ∃ m, n = m + 1 := ⟨n - 1, by omega⟩
    unfold fX5_next_L12 fX6_next_L12
    have : ii 100 ≤ ii c := (ii_le (by omega) (by omega) (by omega) (by omega)).mpr (by omega)
    rw [ii_l100, if_pos this, if_pos this]
    exact ⟨_, rfl, rfl⟩
  | m + 1, n, c, h3, h4, hn => by
    obtain ⟨n, rfl⟩ : ∃ m, n = m + 1 := ⟨n - 1, by omega⟩
    obtain ⟨r, e1, e2⟩ := next_L hT h1 h2 k0 k1 m n (c + 1) (by omega) (by omega) (by omega)
    unfold fX5_next_L12 fX6_next_L12
    simp (disch := omega) only [ii_l0, ii_l1, ii_l2, ii_l40, ii_l100, ii_neg, ii_le, cv_lt_eq, ii_add]
    rw [if_neg (show ¬ 100 ≤ c by omega), if_neg (show ¬ 100 ≤ c by omega), cv_gd_pos (ii_in h3 (by omega) (by omega)), th6 h2 h3 (by omega), hT]
    by_cases z : c ∈ ks v
    · rw [if_pos z, if_pos rfl]
      by_cases y : c ≤ k
      · rw [if_pos y, if_pos y]; exact ⟨r, e1, e2⟩
      · rw [if_neg y, if_neg y, cv_bd_eq (has_yes h1 z), if_neg i0]; exact ⟨_, rfl, rfl⟩
    · rw [if_neg z, if_neg (show ¬ ii 0 = ii 1 by decide)]
      by_cases y : c ≤ k
      · rw [if_pos y]; exact ⟨r, e1, e2⟩
      · rw [if_neg y, cv_bd_eq (has_no h1 (by omega) (by omega) z), if_pos rfl]; exact ⟨r, e1, e2⟩
theorem B_next (hn : 0 ≤ n ∧ n ≤ 10000) (h : Inv n C M) (a1 : Int32) : ∃ r, fX5_next C a1 = some r ∧ fX6_next M a1 = some r := by
  obtain ⟨k, rfl, k0, k1⟩ := ii_all a1
  obtain ⟨o, g, P, r, q', h1, h2, h3, ⟨v, a, b, m, d, c, f, x, y, xs, q, hs⟩, h5⟩ := h
  unfold fX5_next fX6_next
  rw [h1.1]
  cases o with
  | false => rw [if_pos fgF, cv_bd_eq (lacksF hs), if_neg z1_]; exact ⟨_, rfl, rfl⟩
  | true =>
    rw [if_neg fgT, cv_bd_eq (lacksT hs), if_pos z0_, ii_l0]
    exact next_L rfl hs.1.1 hs.1.2.1 k0 k1 100 256 0 (by omega) (by omega) (by omega)
theorem B_count (hn : 0 ≤ n ∧ n ≤ 10000) (h : Inv n C M) (a1 : Int32) : ∃ r, fX5_count C a1 = some r ∧ fX6_countOf M a1 = some r := by
  obtain ⟨o, g, P, r, q', h1, h2, h3, ⟨v, a, b, m, d, c, f, x, y, xs, q, ⟨⟨t1, t2, t3, t4, t5, t6⟩, g2, g3, g4, g5, ⟨l1, l2, l3, l4⟩, hq⟩⟩, h5⟩ := h
  have gt := ig2 (t := 0) (Or.inl rfl)
  unfold fX5_count fX6_countOf
  rw [ii_l0, cv_gd_pos gt, many6 t2, t1.2.2.2.2.2.2, t3.1, t3.2.1, t5.1, t5.2, g3.1, g3.2, l1, l2, hq.1, hq.2.1, h2.1, h2.2.1, h3.1, h3.2.1]
  repeat' (first | exact ⟨_, rfl, rfl⟩ | split)
end
