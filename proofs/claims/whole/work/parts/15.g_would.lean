/-! both: what would be -/
theorem ob_kinds {S S' : SX6} (h : ob S' = ob S) : gX6_kinds S' = gX6_kinds S := congrArg (fun x => x.2.2.1) h
theorem ob_values {S S' : SX6} (h : ob S' = ob S) : gX6_values S' = gX6_values S := congrArg (fun x => x.2.2.2.1) h
theorem ob_log {S S' : SX6} (h : ob S' = ob S) : gX6_log S' = gX6_log S := congrArg (fun x => x.2.2.2.2.2.2.2.1) h
theorem ob_logMany {S S' : SX6} (h : ob S' = ob S) : gX6_logMany S' = gX6_logMany S := congrArg (fun x => x.2.2.2.2.2.2.2.2.1) h
theorem ob_seenMany {S S' : SX6} (h : ob S' = ob S) : gX6_seenMany S' = gX6_seenMany S := congrArg (fun x => x.2.2.2.2.2.2.2.2.2.2.1) h
theorem ob_sights {S S' : SX6} (h : ob S' = ob S) : gX6_sights S' = gX6_sights S := congrArg (fun x => x.2.2.2.2.2.2.2.2.2.2.2.1) h
theorem ob_seedNow {S S' : SX6} (h : ob S' = ob S) : gX6_seedNow S' = gX6_seedNow S := congrArg (fun x => x.2.2.2.2.2.2.2.2.2.2.2.2.1) h
theorem ob_hash {S S' : SX6} (h : ob S' = ob S) : gX6_hash S' = gX6_hash S := congrArg (fun x => x.2.2.2.2.2.2.2.2.2.2.2.2.2.2.2.2.2.2.2.2.2.2.2.2.2.2.2.2.2.2.2) h
theorem ob_sc {S S' : SX6} (h : ob S' = ob S) (h1 : zo S S') (h2 : zn S S') : sc S S' := ⟨ob_oq h, h1, h2, ob_kinds h, ob_values h, ob_log h, ob_logMany h, ob_seenMany h, ob_sights h, ob_hash h⟩
theorem sq_sc {n : Int} {o : Bool} {s : SX3} {M M' : SX6} {v : Tr} {a b m d c f x y : Int} {xs : List Int} {q : Nat} (h : sq n o s M v a b m d c f x y xs q) (g : sc M M') : sq n o s M' v a b m d c f x y xs q := by
  obtain ⟨⟨t1, t2, t3, t4, t5, t6⟩, h2, h3, h4, ⟨e1, e2, e3, e4, e5, e6, e7⟩, ⟨l1, l2, l3, l4⟩, ⟨q1, q2, q3⟩⟩ := h
  obtain ⟨g1, g2, g3, g4, g5, g6, g7, g8, g9, -⟩ := g
  refine ⟨⟨t1, rc_zo t2 g2, t3, ⟨g3.1.trans t4.1, g3.2.1.trans t4.2.1, g3.2.2.1.trans t4.2.2⟩, ⟨(oq_ratioA g1).trans t5.1, (oq_ratioB g1).trans t5.2⟩, t6⟩, h2, ⟨h3.1, (oq_fee g1).trans h3.2⟩, ?_, ⟨e1, g3.2.2.2.1.trans e2, e3, g3.2.2.2.2.trans e4, e5, e6, e7⟩, ?_, ?_⟩
  · rw [g4, g5]; exact h4
  · rw [g6, g7]; exact ⟨l1, l2, l3, l4⟩
  · rw [g8, g9]; exact ⟨q1, q2, q3⟩
section
variable {n : Int} {C : SX5} {M : SX6}
theorem sq_cw {C' : SX5} {o : Bool} {v : Tr} {a b m d c f x y : Int} {xs : List Int} {q : Nat} (h : sq n o (gX5_now C) M v a b m d c f x y xs q) (hc : cw C C') : sq n o (gX5_now C') M v a b m d c f x y xs q := by
  obtain ⟨-, -, -, -, -, w, e⟩ := hc
  rw [e]
  exact sq_way h w
theorem would6 {s : SX3} {v : Tr} {a b m d c f x y : Int} {xs : List Int} {q : Nat} (hs : sq n true s M v a b m d c f x y xs q) {k : Int} (k0 : 0 ≤ k) (k1 : k < 100) (hz : sz v ≤ 39) : ∃ M', fX6_wouldOf M (ii k) = some (if k ∈ ks v then ii (-1) else ii (adN a b v k), M') ∧ sc M M' := by
  obtain ⟨⟨t1, t2, t3, t4, t5, t6⟩, g2, -⟩ := hs
  unfold fX6_wouldOf
  simp only [ii_l0, ii_l1, ii_l2, ii_l40, ii_l100, ii_neg, ii_l3, ii_l4, ii_l5, ii_l6, ii_l7, ii_l8, ii_l10, ii_l31, ii_l44, ii_l48, ii_l52, ii_l54, ii_l57, ii_l59, ii_l60, ii_l61, ii_l99, ii_l101, ii_l102, ii_l103, ii_l104, ii_l108, ii_l110, ii_l115, ii_l126, ii_l999, ii_l100000, ii_l65536]
  rw [cv_gd_pos (ii_in k0 (by omega) (by omega)), th6 t2 k0 k1]
  by_cases z : k ∈ ks v
  · rw [if_pos z, if_pos rfl, if_pos z]
    exact ⟨M, rfl, sc_refl M⟩
  · obtain ⟨M1, e1, e2, e3, e4, e5, e6, e7⟩ := begin6 t2 (ab0 t5) t4
    obtain ⟨M2, b1, b2, b3, b4, b5, -⟩ := enter6 e2 (Or.inr rfl) e4 (g2.1 rfl).1 k0 k1 z hz e3 t6
    rw [if_neg z, if_neg (show ¬ ii 0 = ii 1 by decide), cv_bd_eq e1, cv_bd_eq b1, b4, if_neg z]
    exact ⟨M2, rfl, sc_trans (ob_sc e5 e6 e7) (hi_sc b5)⟩
theorem B_would (hn : 0 ≤ n ∧ n ≤ 10000) (h : Inv n C M) (a1 : Int32) : ∃ r C' M', fX5_would C a1 = some (r, C') ∧ fX6_would M a1 = some (r, M') ∧ Inv n C' M' := by
  obtain ⟨k, rfl, k0, k1⟩ := ii_all a1
  have hI := h
  obtain ⟨o, g_, P, r, q', h1, h2, h3, ⟨v, a, b, m, d, c, f, x, y, xs, q, hs⟩, h5⟩ := h
  unfold fX5_would fX6_would
  rw [cv_bd_eq (noKey k0 k1), cv_bd_eq (in6 (lo := 0) (hi := 99) k0 k1 rfl rfl), h1.1]
  by_cases c1 : 0 ≤ k ∧ k ≤ 99
  · rw [if_pos c1, if_pos z0_, if_pos c1, if_neg z1_]
    cases o with
    | false =>
      rw [if_pos fgF, cv_bd_eq (lacksF hs), if_neg z1_]
      exact ⟨_, C, M, rfl, rfl, hI⟩
    | true =>
      obtain ⟨⟨t1, t2, t3, t4, t5, t6⟩, g2, -⟩ := id hs
      have s0 := sz_nonneg v t1.1
      have s1 := t1.2.2.1
      rw [if_neg fgT, cv_bd_eq (lacksT hs), if_pos z0_]
      simp only [ii_l0, ii_l1, ii_l2, ii_l40, ii_l100, ii_neg, ii_l3, ii_l4, ii_l5, ii_l6, ii_l7, ii_l8, ii_l10, ii_l31, ii_l44, ii_l48, ii_l52, ii_l54, ii_l57, ii_l59, ii_l60, ii_l61, ii_l99, ii_l101, ii_l102, ii_l103, ii_l104, ii_l108, ii_l110, ii_l115, ii_l126, ii_l999, ii_l100000, ii_l65536]
      rw [cv_gd_pos (ig2 (t := 0) (Or.inl rfl)), many6 t2]
      by_cases y : sz v = 40
      · rw [cv_bd_eq (full_yes t1 y), if_neg i0, if_pos (by rw [y])]
        exact ⟨_, C, M, rfl, rfl, hI⟩
      · obtain ⟨M', e1, e2⟩ := would6 hs c1.1 (by omega : k < 100) (by omega)
        rw [cv_bd_eq (full_no t1 (by omega)), if_pos rfl, if_neg (i_ne (by omega) (by omega) (by omega) (by omega) y), cv_bd_eq e1]
        by_cases z : k ∈ ks v
        · rw [cv_bd_eq (has_yes t1 z), if_neg i0, if_pos z]
          exact ⟨_, C, M', rfl, rfl, Inv_cw hI (cw_refl C) e2⟩
        · rw [cv_bd_eq (has_no t1 k0 k1 z), if_pos rfl, if_neg z, cv_bd_eq (would_eq t1 (g2.1 rfl).1 t3 c1.1 (by omega) (by omega)), cv_lt_eq]
          exact ⟨_, _, M', rfl, rfl, Inv_cw hI ⟨rfl, rfl, rfl, rfl, rfl, _, rfl⟩ e2⟩
  · rw [if_neg c1, if_neg z1_, if_neg c1, if_pos z0_]
    exact ⟨_, C, M, rfl, rfl, hI⟩
theorem dear_L {u : Int32} {v : Tr} {a b m d c f x y : Int} {xs : List Int} {q : Nat} (hz : sz v ≤ 39) : ∀ (j n' : Nat) (e : Int) (y2 y3 : Int32) (C : SX5) (M : SX6), sq n true (gX5_now C) M v a b m d c f x y xs q → 0 ≤ e → e + j = 100 → j < n' → ∃ b1 b2 C' M', fX5_dear_L44 u n' y2 y3 (ii e) C = some (b1, b2, C') ∧ fX6_dearOf_L7 u n' y2 y3 (ii e) M = some (b1, b2, M') ∧ cw C C' ∧ sc M M'
  | 0, n', e, y2, y3, C, M, hs, e0, e1, hn => by
    obtain ⟨n', rfl⟩ : ∃ m, n' = m + 1 := ⟨n' - 1, by omega⟩
    unfold fX5_dear_L44 fX6_dearOf_L7
    have : ii 100 ≤ ii e := p_le (by omega) (by omega) (by omega) (by omega) (by omega)
    rw [ii_l100, if_pos this, if_pos this]
    exact ⟨_, _, C, M, rfl, rfl, cw_refl C, sc_refl M⟩
  | j + 1, n', e, y2, y3, C, M, hs, e0, e1, hn => by
    obtain ⟨n', rfl⟩ : ∃ m, n' = m + 1 := ⟨n' - 1, by omega⟩
    obtain ⟨⟨t1, t2, t3, t4, t5, t6⟩, g2, -⟩ := id hs
    have s0 := sz_nonneg v t1.1
    obtain ⟨M1, f1, f2⟩ := would6 hs e0 (by omega : e < 100) hz
    have nl : ¬ ii 100 ≤ ii e := n_le (by omega) (by omega) (by omega) (by omega) (by omega)
    have nf : ¬ ii 40 ≤ ii (sz v) := n_le (by omega) (by omega) (by omega) (by omega) (by omega)
    have step : ∃ C1, cv_bd (fX4_has (gX3_tree (gX5_now C)) (ii e)) (fun r7 => if r7 = ii 0 then cv_bd (fX4_wouldBuild (gX3_tree (gX5_now C)) (ii e)) (fun r15 => some (r15.1, sX5_now C (sX3_tree (gX5_now C) r15.2))) else some (ii (-1), C)) = some (if e ∈ ks v then ii (-1) else ii (adN a b v e), C1) ∧ cw C C1 := by
      by_cases z : e ∈ ks v
      · rw [cv_bd_eq (has_yes t1 z), if_neg i0, if_pos z]
        exact ⟨C, rfl, cw_refl C⟩
      · rw [cv_bd_eq (has_no t1 (by omega) (by omega) z), if_pos rfl, cv_bd_eq (would_eq t1 (g2.1 rfl).1 t3 e0 (by omega) hz), if_neg z]
        exact ⟨_, rfl, rfl, rfl, rfl, rfl, rfl, _, rfl⟩
    obtain ⟨C1, s1, s2⟩ := step
    have hs1 := sq_sc (sq_cw hs s2) f2
    obtain ⟨w, hw⟩ : ∃ w, w = (if e ∈ ks v then ii (-1) else ii (adN a b v e)) := ⟨_, rfl⟩
    rw [← hw] at s1 f1
    have hh : ∃ h0, fX4_has (gX3_tree (gX5_now C)) (ii e) = some h0 := by
      by_cases z : e ∈ ks v
      · exact ⟨_, has_yes t1 z⟩
      · exact ⟨_, has_no t1 (by omega) (by omega) z⟩
    obtain ⟨h0, hh⟩ := hh
    rw [cv_bd_eq hh] at s1
    obtain ⟨b1, b2, C', M', r1, r2, r3, r4⟩ := dear_L hz j n' (e + 1) (if w ≤ y3 then y2 else ii e) (if w ≤ y3 then y3 else w) C1 M1 hs1 (by omega) (by omega) (by omega)
    refine ⟨b1, b2, C', M', ?_, ?_, cw_trans s2 r3, sc_trans f2 r4⟩
    · unfold fX5_dear_L44
      simp only [ii_l0, ii_l1, ii_l2, ii_l40, ii_l100, ii_neg, cv_lt_eq, ii_add]
      rw [if_neg nl, cv_bd_eq hh, cv_bd_eq s1]
      by_cases z : w ≤ y3
      · rw [if_pos z, if_pos z] at r1
        rw [if_pos z, cv_bd_some]
        exact r1
      · rw [if_neg z, if_neg z] at r1
        rw [if_neg z, cv_bd_some]
        exact r1
    · unfold fX6_dearOf_L7
      simp only [ii_l0, ii_l1, ii_l2, ii_l40, ii_l100, ii_neg, cv_lt_eq, ii_add]
      rw [if_neg nl, cv_gd_pos (ig2 (t := 0) (Or.inl rfl)), many6 t2, if_neg nf, cv_bd_eq f1]
      by_cases z : w ≤ y3
      · rw [if_pos z, if_pos z] at r2
        rw [if_pos z, if_pos z, cv_bd_some, cv_bd_some]
        exact r2
      · rw [if_neg z, if_neg z] at r2
        rw [if_neg z, if_neg z, cv_bd_some, cv_bd_some]
        exact r2
theorem B_dear (hn : 0 ≤ n ∧ n ≤ 10000) (h : Inv n C M) (a1 : Int32) : ∃ r C' M', fX5_dear C a1 = some (r, C') ∧ fX6_dear M a1 = some (r, M') ∧ Inv n C' M' := by
  obtain ⟨k, rfl, k0, k1⟩ := ii_all a1
  have hI := h
  obtain ⟨o, g_, P, r, q', h1, h2, h3, ⟨v, a, b, m, d, c, f, x, y, xs, q, hs⟩, h5⟩ := h
  unfold fX5_dear fX6_dear
  rw [cv_bd_eq (in6 (lo := 0) (hi := 1) k0 k1 rfl rfl), h1.1]
  by_cases c1 : 0 ≤ k ∧ k ≤ 1
  · rw [if_neg (show ¬ ii k < (0 : Int32) from n_lt (c := 0) k0 k1 (by omega) (by omega) (by omega)), if_pos (show ii k ≤ (1 : Int32) from p_le (c := 1) k0 k1 (by omega) (by omega) c1.2), if_pos c1, if_neg z1_]
    cases o with
    | false =>
      rw [if_pos fgF, cv_bd_eq (lacksF hs), if_neg z1_]
      exact ⟨_, C, M, rfl, rfl, hI⟩
    | true =>
      obtain ⟨⟨t1, t2, t3, t4, t5, t6⟩, g2, -⟩ := id hs
      have s0 := sz_nonneg v t1.1
      have s1 := t1.2.2.1
      rw [if_neg fgT, cv_bd_eq (lacksT hs), if_pos z0_]
      unfold fX6_dearOf
      by_cases y4 : sz v = 40
      · rw [cv_bd_eq (full_yes t1 y4), if_neg z1_]
        have e : fX6_dearOf_L7 (ii k) 256 (-1 : Int32) (-1 : Int32) (0 : Int32) M = some (ii (-1), ii (-1), M) := by
          show fX6_dearOf_L7 (ii k) (255 + 1) (-1 : Int32) (-1 : Int32) (0 : Int32) M = _
          unfold fX6_dearOf_L7
          simp only [ii_l0, ii_l1, ii_l2, ii_l40, ii_l100, ii_neg]
          rw [if_neg (show ¬ ii 100 ≤ ii 0 from n_le (by omega) (by omega) (by omega) (by omega) (by omega)), cv_gd_pos (ig2 (t := 0) (Or.inl rfl)), many6 t2, if_pos (p_le (by omega) (by omega) (by omega) (by omega) (by omega))]
        rw [cv_bd_eq e]
        refine ⟨ii (-1), C, M, rfl, ?_, hI⟩
        by_cases z : ii k = 0
        · rw [if_pos z]; rfl
        · rw [if_neg z]; rfl
      · obtain ⟨b1, b2, C', M', r1, r2, r3, r4⟩ := dear_L (u := ii k) (by omega) 100 256 0 (-1) (-1) C M hs (by omega) (by omega) (by omega)
        rw [cv_bd_eq (full_no t1 (by omega)), if_pos z0_]
        have e1 := cv_bd_eq r1 (fun j17 : Int32 × Int32 × SX5 => if ii k = 0 then some (j17.1, j17.2.2) else some (j17.2.1, j17.2.2))
        have e2 := cv_bd_eq r2 (fun j12 : Int32 × Int32 × SX6 => if ii k = 0 then some (j12.1, j12.2.2) else some (j12.2.1, j12.2.2))
        by_cases z : ii k = 0
        · rw [if_pos z] at e1 e2
          exact ⟨b1, C', M', e1, cv_bd_eq e2 _, Inv_cw hI r3 r4⟩
        · rw [if_neg z] at e1 e2
          exact ⟨b2, C', M', e1, cv_bd_eq e2 _, Inv_cw hI r3 r4⟩
  · rw [if_neg c1, if_pos z0_]
    refine ⟨_, C, M, ?_, rfl, hI⟩
    by_cases z : k < 0
    · rw [if_pos (show ii k < (0 : Int32) from p_lt (c := 0) k0 k1 (by omega) (by omega) z)]
    · rw [if_neg (show ¬ ii k < (0 : Int32) from n_lt (c := 0) k0 k1 (by omega) (by omega) z), if_neg (show ¬ ii k ≤ (1 : Int32) from n_le (c := 1) k0 k1 (by omega) (by omega) (by omega))]
theorem th6b {v : Tr} (h : rc M 1 v) {k : Int} (k0 : 0 ≤ k) (k1 : k < 100) : gX6_there M (ii (100 + k)).toNatClampNeg = ii (if k ∈ ks v then 1 else 0) := by
  obtain ⟨_, _, _, L, R, U, H, ha, _, _, hh⟩ := h
  have := ar_h ha (Or.inr rfl) k0 k1
  rw [show (100 : Int) * 1 + k = 100 + k by omega] at this
  rw [this, hh k k0 k1]
theorem many6b {v : Tr} (h : rc M 1 v) : gX6_many M (ii 1).toNatClampNeg = ii (sz v) := by
  obtain ⟨_, _, _, L, R, U, H, ha, _⟩ := h
  exact ar_n ha (Or.inr rfl)
theorem ah_L17 {u : Int32} {w : Tr} (h : rc M 1 w) (hne : ¬ em w = true) : ∀ (j n' : Nat) (e : Int), 0 ≤ e → e + j = 100 → (∀ k ∈ ks w, e ≤ k) → j < n' → ∃ k, k ∈ ks w ∧ (∀ i ∈ ks w, k ≤ i) ∧ fX6_aheadOf_L17 M u n' (ii e) = some (ii k)
  | 0, n', e, e0, e1, hk, hn => by
    exfalso
    have m := rt_mem h.1 (em_ne h.1 hne)
    have := hk _ m
    have := rc_in h m
    omega
  | j + 1, n', e, e0, e1, hk, hn => by
    obtain ⟨n', rfl⟩ : ∃ m, n' = m + 1 := ⟨n' - 1, by omega⟩
    unfold fX6_aheadOf_L17
    simp only [ii_l0, ii_l1, ii_l2, ii_l40, ii_l100, ii_neg, cv_lt_eq, ii_add]
    rw [cv_gd_pos (ii_in (by omega) (by omega) (by omega)), th6b h e0 (by omega)]
    by_cases z : e ∈ ks w
    · rw [if_pos z, if_neg i0]
      exact ⟨e, z, hk, rfl⟩
    · rw [if_neg z, if_pos rfl]
      exact ah_L17 h hne j n' (e + 1) (by omega) (by omega) (fun k hk' => by
        have := hk k hk'
        have : k ≠ e := fun q => z (by rw [← q]; exact hk')
        omega) (by omega)
theorem ah_L8 {a b m : Int} (hr : rat a b) (hm : 0 ≤ m ∧ m ≤ 40) {N : Int} (hN : N ≤ 40) (ha : gX4_a (gX3_tree (gX5_now C)) = ii a) (hb : gX4_b (gX3_tree (gX5_now C)) = ii b) (hmo : gX4_most (gX3_tree (gX5_now C)) = ii m) : ∀ (s n1 n2 : Nat) (w : Tr) (m' d' c' j e : Int) (M : SX6), rc M 1 w → sz w = s → nm M 1 m' d' c' → (0 < s → m' = m) → ab M 1 a b → 0 ≤ e → e ≤ 100 → (∀ k ∈ ks w, e ≤ k) → 0 ≤ j → j + s = N → s < n1 → s < n2 →
    ∃ r M', fX5_ahead_L25 C (ii N) n1 (ii (s - 1)) = some r ∧ fX6_aheadOf_L8 n2 (ii j) (ii e) M = some (r, M') ∧ hi_ 1 M M'
  | 0, n1, n2, w, m', d', c', j, e, M, h1, h2, h3, h4, h5, e0, e1, h6, h7, h8, hn1, hn2 => by
    obtain ⟨n1, rfl⟩ : ∃ m, n1 = m + 1 := ⟨n1 - 1, by omega⟩
    obtain ⟨n2, rfl⟩ : ∃ m, n2 = m + 1 := ⟨n2 - 1, by omega⟩
    refine ⟨ii (-1), M, ?_, ?_, hi_refl 1 M⟩
    · unfold fX5_ahead_L25
      simp only [ii_l0, ii_l1, ii_l2, ii_l40, ii_l100, ii_neg]
      rw [if_pos (p_le (by omega) (by omega) (by omega) (by omega) (by omega))]
    · unfold fX6_aheadOf_L8
      simp only [ii_l0, ii_l1, ii_l2, ii_l40, ii_l100, ii_neg]
      rw [cv_gd_pos (ig2 (t := 1) (Or.inr rfl)), many6b h1, h2, if_pos (p_le (by omega) (by omega) (by omega) (by omega) (by omega))]
  | s + 1, n1, n2, w, m', d', c', j, e, M, h1, h2, h3, h4, h5, e0, e1, h6, h7, h8, hn1, hn2 => by
    obtain ⟨n1, rfl⟩ : ∃ m, n1 = m + 1 := ⟨n1 - 1, by omega⟩
    obtain ⟨n2, rfl⟩ : ∃ m, n2 = m + 1 := ⟨n2 - 1, by omega⟩
    obtain rfl := h4 (by omega)
    have hr' : 2 ≤ a ∧ a ≤ 4 ∧ 3 ≤ b ∧ b ≤ 5 := by unfold rat at hr; omega
    have hne : ¬ em w = true := fun z => by have := (em_sz h1.1).mp z; omega
    obtain ⟨k, k1, k2, k3⟩ := ah_L17 (u := ii j) h1 hne (100 - e).toNat 256 e e0 (by omega) h6 (by omega)
    have kb := rc_in h1 k1
    obtain ⟨M1, b1, b2, b3, b4, b5, -⟩ := leave6 h1 (Or.inr rfl) h5 hr k1 h3 hm
    have hz : sz w ≤ 40 := h1.2.2.1
    have dn : drN a b m' w = if 0 < (s : Int) ∧ b * s < a * m' then (s : Int) else 0 := by
      unfold drN drF
      rw [show sz w - 1 = (s : Int) by omega]
      by_cases z : 0 < (s : Int)
      · have : drM m' w = m' := by unfold drM; rw [if_neg (by omega)]
        rw [this]
        by_cases y : 0 < (s : Int) ∧ b * s < a * m'
        · rw [if_pos (decide_eq_true y), if_pos y]
        · rw [if_neg (fun t => y (of_decide_eq_true t)), if_neg y]
      · rw [if_neg (fun t => z (of_decide_eq_true t).1), if_neg (fun t => z t.1)]
    have gt := ig2 (t := 1) (Or.inr rfl)
    have lhs : ∀ res, (if 0 < (s : Int) ∧ b * s < a * m' then some (ii (N - s)) else fX5_ahead_L25 C (ii N) n1 (ii (s - 1))) = res → (0 < (s : Int) ∨ res = some (ii (-1))) → fX5_ahead_L25 C (ii N) (n1 + 1) (ii ((s + 1 : Nat) - 1)) = res := fun res h9 h10 => by
      unfold fX5_ahead_L25
      simp only [ii_l0, ii_l1, ii_l2, ii_l40, ii_l100, ii_neg, cv_lt_eq]
      rw [show (((s + 1 : Nat) : Int) - 1) = (s : Int) by omega]
      by_cases z : 0 < (s : Int)
      · rw [if_neg (n_le (by omega) (by omega) (by omega) (by omega) (by omega)), cv_bd_eq (isFew_eq _ ha hb hmo hr hm (n := (s : Int)) (by omega))]
        by_cases y : 0 < (s : Int) ∧ b * s < a * m'
        · rw [if_pos y, if_neg i0, ii_sub]
          rw [if_pos y] at h9
          exact h9
        · rw [if_neg y, if_pos rfl, ii_add]
          rw [if_neg y] at h9
          exact h9
      · rw [if_pos (p_le (by omega) (by omega) (by omega) (by omega) (by omega))]
        rcases h10 with t | t
        · exact absurd t z
        · exact t.symm
    have rhs : ∀ res, (if drN a b m' w ≤ 0 then fX6_aheadOf_L8 n2 (ii (j + 1)) (ii k) M1 else some (ii (j + 1), M1)) = res → fX6_aheadOf_L8 (n2 + 1) (ii j) (ii e) M = res := fun res h9 => by
      have db := drN_in (a := a) (b := b) (m := m') hz
      unfold fX6_aheadOf_L8
      simp only [ii_l0, ii_l1, ii_l2, ii_l40, ii_l100, ii_neg, cv_lt_eq]
      rw [cv_gd_pos gt, many6b h1, h2, if_neg (n_le (by omega) (by omega) (by omega) (by omega) (by omega)), cv_bd_eq k3, cv_bd_eq b1, b4, ii_add]
      by_cases z : drN a b m' w ≤ 0
      · rw [if_pos (p_le (by omega) (by omega) (by omega) (by omega) z)]
        rw [if_pos z] at h9
        exact h9
      · rw [if_neg (n_le (by omega) (by omega) (by omega) (by omega) z)]
        rw [if_neg z] at h9
        exact h9
    by_cases y : 0 < (s : Int) ∧ b * s < a * m'
    · rw [if_pos y] at dn
      refine ⟨ii (N - s), M1, lhs _ (by rw [if_pos y]) (Or.inl y.1), rhs _ ?_, b5⟩
      rw [if_neg (by omega), show j + 1 = N - s by omega]
    · rw [if_neg y] at dn
      have hF : ¬ drF a b m' w = true := fun t => by
        unfold drN at dn
        rw [if_pos t] at dn
        have : 0 < sz w - 1 := (of_decide_eq_true t).1
        omega
      have eT : drT a b m' w k = dl k w := by unfold drT; rw [if_neg hF]
      have eO : drO a b m' w = drM m' w := by unfold drO; rw [if_neg hF]
      have eM : 0 < s → drM m' w = m' := fun t => by unfold drM; rw [if_neg (by omega)]
      rw [eT] at b2
      rw [eO] at b3
      obtain ⟨r, M', r1, r2, r3⟩ := ah_L8 hr hm hN ha hb hmo s n1 n2 (dl k w) _ _ _ (j + 1) k M1 b2 (by rw [dl_sz h1.1 h1.2.1 k1]; omega) b3 eM (ab_ot b5.1 h5) (by omega) (by omega) (fun i hi => k2 i ((dl_ks h1.1 h1.2.1 k1 i).mp hi).1) (by omega) (by omega) (by omega) (by omega)
      refine ⟨r, M', lhs _ (by rw [if_neg y]; exact r1) ?_, rhs _ (by rw [if_pos (by omega)]; exact r2), hi_trans b5 r3⟩
      by_cases z : 0 < (s : Int)
      · exact Or.inl z
      · right
        have z0 : s = 0 := by omega
        subst z0
        obtain ⟨n1, rfl⟩ : ∃ m, n1 = m + 1 := ⟨n1 - 1, by omega⟩
        have : fX5_ahead_L25 C (ii N) (n1 + 1) (ii (((0 : Nat) : Int) - 1)) = some (ii (-1)) := by
          unfold fX5_ahead_L25
          simp only [ii_l0, ii_l1, ii_l2, ii_l40, ii_l100, ii_neg]
          rw [if_pos (p_le (by omega) (by omega) (by omega) (by omega) (by omega))]
        rw [← r1]
        exact this
theorem aheadOf6 {v : Tr} {a b m d c f x y : Int} {xs : List Int} {q : Nat} (hs : sq n true (gX5_now C) M v a b m d c f x y xs q) (ho : gX5_open C = fg true) : ∃ r M', fX5_ahead C = some r ∧ fX6_aheadOf M = some (r, M') ∧ sc M M' := by
  obtain ⟨⟨t1, t2, t3, t4, t5, t6⟩, g2, -⟩ := hs
  have s0 := sz_nonneg v t1.1
  have s1 := t1.2.2.1
  obtain ⟨M1, e1, e2, e3, e4, e5, e6, e7⟩ := begin6 t2 (ab0 t5) t4
  obtain ⟨r, M', r1, r2, r3⟩ := ah_L8 (C := C) (g2.1 rfl).1 t6 s1 t3.1 t3.2.1 t3.2.2.1 (sz v).toNat 256 256 v m 0 0 0 0 M1 e2 (by omega) e3 (fun _ => rfl) e4 (by omega) (by omega) (fun k hk => (rc_in t2 hk).1) (by omega) (by omega) (by omega) (by omega)
  refine ⟨r, M', ?_, ?_, sc_trans (ob_sc e5 e6 e7) (hi_sc r3)⟩
  · unfold fX5_ahead
    rw [ho, if_neg fgT, cv_lt_eq, cv_lt_eq, t1.2.2.2.2.2.2, ii_l1, ii_sub]
    rw [show (((sz v).toNat : Nat) : Int) = sz v by omega] at r1
    exact r1
  · unfold fX6_aheadOf
    rw [cv_bd_eq e1]
    exact r2
theorem B_ahead (hn : 0 ≤ n ∧ n ≤ 10000) (h : Inv n C M) : ∃ r M', fX5_ahead C = some r ∧ fX6_ahead M = some (r, M') ∧ Inv n C M' := by
  have hI := h
  obtain ⟨o, g_, P, r, q', h1, h2, h3, ⟨v, a, b, m, d, c, f, x, y, xs, q, hs⟩, h5⟩ := h
  unfold fX6_ahead
  cases o with
  | false =>
    rw [cv_bd_eq (lacksF hs), if_neg z1_]
    refine ⟨_, M, ?_, rfl, hI⟩
    unfold fX5_ahead
    rw [h1.1, if_pos fgF]
  | true =>
    obtain ⟨r, M', e1, e2, e3⟩ := aheadOf6 hs h1.1
    rw [cv_bd_eq (lacksT hs), if_pos z0_, cv_bd_eq e2]
    exact ⟨r, M', e1, rfl, Inv_cw hI (cw_refl C) e3⟩
end
