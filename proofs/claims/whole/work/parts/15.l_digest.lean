/-! both: the digest -/
theorem oq_hash (M : SX6) (x : Int64) : oq (sX6_hash M x) = oq M := rfl
theorem eqv_hash (M : SX6) (x : Int64) : eqv M (sX6_hash M x) := ⟨zo_refl M, zn_refl M, fun _ _ _ => ⟨rfl, rfl⟩, ⟨rfl, rfl, rfl⟩, fun _ _ _ => rfl, ⟨rfl, rfl⟩, fun _ _ _ => rfl⟩
theorem Inv_hash {n : Int} {C : SX5} {M : SX6} (h : Inv n C M) (x : Int64) : Inv n C (sX6_hash M x) := by
  obtain ⟨o, g, P, r, q, h1, h2, h3, h4, h5⟩ := h
  exact Inv_keep (by omega) h1 h2 h3 h5 rfl rfl rfl rfl rfl (oq_hash M x) (sr_eqv h4 (eqv_hash M x))
theorem lacks_sc {M M' : SX6} (h : sc M M') : fX6_lacks M' = fX6_lacks M := by
  unfold fX6_lacks
  rw [oq_ratioB h.1]
theorem Inv_open {n : Int} {C : SX5} {M : SX6} (h : Inv n C M) (hl : fX6_lacks M = some (ii 0)) : gX5_open C = fg true ∧ ∃ v a b m d c f x y xs q, sq n true (gX5_now C) M v a b m d c f x y xs q := by
  obtain ⟨o, g, P, r, q, h1, h2, h3, ⟨v, a, b, m, d, c, f, x, y, xs, q, hs⟩, h5⟩ := h
  cases o with
  | true => exact ⟨h1.1, v, a, b, m, d, c, f, x, y, xs, q, hs⟩
  | false =>
    rw [lacksF hs] at hl
    exact absurd (Option.some.inj hl) (by decide)
section
variable {n : Int} {M : SX6} {o : Bool} {v : Tr} {a b m d c f x y : Int} {xs : List Int} {q : Nat}
theorem sq_hash {s : SX3} (h : sq n o s M v a b m d c f x y xs q) (z : Int64) : sq n o s (sX6_hash M z) v a b m d c f x y xs q := h
theorem ent_L {k : Int} (hk : k ∈ ks v) : ∀ (j n1 n2 : Nat) (i : Int) (h : Int64) (C : SX5), sq n o (gX5_now C) M v a b m d c f x y xs q → 0 ≤ i → i + j = 7 → j < n1 → j < n2 → ∃ h' C', fX5_mixEntries_L38 (ii k) n1 h (ii i) C = some (h', C') ∧ fX6_digest_L33 (ii k) n2 (ii i) (sX6_hash M h) = some (sX6_hash M h') ∧ cw C C'
  | 0, n1, n2, i, h, C, hs, i0, ij, h1, h2 => by
    obtain ⟨n1, rfl⟩ : ∃ m, n1 = m + 1 := ⟨n1 - 1, by omega⟩
    obtain ⟨n2, rfl⟩ : ∃ m, n2 = m + 1 := ⟨n2 - 1, by omega⟩
    refine ⟨h, C, ?_, ?_, cw_refl C⟩
    · unfold fX5_mixEntries_L38
      rw [if_pos (show (6 : Int32) < ii i from p_lt (k := 6) (by omega) (by omega) (by omega) (by omega) (by omega))]
    · unfold fX6_digest_L33
      rw [if_pos (show (7 : Int32) ≤ ii i from p_le (k := 7) (by omega) (by omega) (by omega) (by omega) (by omega))]
  | j + 1, n1, n2, i, h, C, hs, i0, ij, h1, h2 => by
    obtain ⟨n1, rfl⟩ : ∃ m, n1 = m + 1 := ⟨n1 - 1, by omega⟩
    obtain ⟨n2, rfl⟩ : ∃ m, n2 = m + 1 := ⟨n2 - 1, by omega⟩
    obtain ⟨r, C1, e1, e2, e3⟩ := tell_eq (sq_hash hs h) hk (ii i)
    obtain ⟨h', C', f1, f2, f3⟩ := ent_L hk j n1 n2 (i + 1) (31 * h + r.toInt64) C1 (sq_cw hs e3) (by omega) (by omega) (by omega) (by omega)
    refine ⟨h', C', ?_, ?_, cw_trans e3 f3⟩
    · unfold fX5_mixEntries_L38
      rw [if_neg (show ¬ (6 : Int32) < ii i from n_lt (k := 6) (by omega) (by omega) (by omega) (by omega) (by omega)), cv_bd_eq e1]
      show fX5_mixEntries_L38 (ii k) n1 (31 * h + r.toInt64) (ii i + 1) C1 = _
      rw [ii_l1, ii_add]
      exact f1
    · unfold fX6_digest_L33
      rw [if_neg (show ¬ (7 : Int32) ≤ ii i from n_le (k := 7) (by omega) (by omega) (by omega) (by omega) (by omega)), cv_bd_eq e2]
      show fX6_digest_L33 (ii k) n2 (ii i + 1) (sX6_hash M (31 * h + r.toInt64)) = _
      rw [ii_l1, ii_add]
      exact f2
theorem all_L : ∀ (j n1 n2 : Nat) (e : Int) (h : Int64) (C : SX5), sq n o (gX5_now C) M v a b m d c f x y xs q → 0 ≤ e → e + j = 100 → j < n1 → j < n2 → ∃ h' C', fX5_mixEntries_L5 n1 h (ii e) C = some (h', C') ∧ fX6_digest_L9 n2 (ii e) (sX6_hash M h) = some (sX6_hash M h') ∧ cw C C'
  | 0, n1, n2, e, h, C, hs, i0, ij, h1, h2 => by
    obtain ⟨n1, rfl⟩ : ∃ m, n1 = m + 1 := ⟨n1 - 1, by omega⟩
    obtain ⟨n2, rfl⟩ : ∃ m, n2 = m + 1 := ⟨n2 - 1, by omega⟩
    refine ⟨h, C, ?_, ?_, cw_refl C⟩
    · unfold fX5_mixEntries_L5
      rw [if_pos (show (100 : Int32) ≤ ii e from p_le (k := 100) (by omega) (by omega) (by omega) (by omega) (by omega))]
    · unfold fX6_digest_L9
      rw [if_pos (show (100 : Int32) ≤ ii e from p_le (k := 100) (by omega) (by omega) (by omega) (by omega) (by omega))]
  | j + 1, n1, n2, e, h, C, hs, i0, ij, h1, h2 => by
    obtain ⟨n1, rfl⟩ : ∃ m, n1 = m + 1 := ⟨n1 - 1, by omega⟩
    obtain ⟨n2, rfl⟩ : ∃ m, n2 = m + 1 := ⟨n2 - 1, by omega⟩
    have t1 := hs.1.1
    have g := ii_in (k := e) (n := 200) i0 (by omega) (by omega)
    have th : gX6_there (sX6_hash M h) (ii e).toNatClampNeg = ii (if e ∈ ks v then 1 else 0) := th6 hs.1.2.1 i0 (by omega)
    by_cases z : e ∈ ks v
    · obtain ⟨h1', C1, g1, g2, g3⟩ := ent_L z 7 256 256 0 (31 * h + (ii e).toInt64) C hs (by omega) (by omega) (by omega) (by omega)
      obtain ⟨h', C', f1, f2, f3⟩ := all_L j n1 n2 (e + 1) h1' C1 (sq_cw hs g3) (by omega) (by omega) (by omega) (by omega)
      rw [if_pos z] at th
      refine ⟨h', C', ?_, ?_, cw_trans g3 f3⟩
      · have inner : (cv_bd (fX5_mix h (ii e).toInt64) fun r7 => cv_bd (fX5_mixEntries_L38 (ii e) 256 r7 (0 : Int32) C) fun j8 => some (j8.1, j8.2)) = some (h1', C1) := cv_bd_eq (x := fX5_mixEntries_L38 (ii e) 256 (31 * h + (ii e).toInt64) (ii 0) C) g1 _
        unfold fX5_mixEntries_L5
        rw [if_neg (show ¬ (100 : Int32) ≤ ii e from n_le (k := 100) (by omega) (by omega) (by omega) (by omega) (by omega)), cv_bd_eq (has_yes t1 z), if_neg z1_, cv_bd_eq inner]
        show fX5_mixEntries_L5 n1 h1' (ii e + 1) C1 = _
        rw [ii_l1, ii_add]
        exact f1
      · have inner : (cv_bd (fX6_say (sX6_hash M h) (ii e).toInt64) fun r8 => cv_bd (fX6_digest_L33 (ii e) 256 (0 : Int32) r8) fun j9 => some j9) = some (sX6_hash M h1') := cv_bd_eq (x := fX6_digest_L33 (ii e) 256 (ii 0) (sX6_hash M (31 * h + (ii e).toInt64))) g2 _
        unfold fX6_digest_L9
        rw [if_neg (show ¬ (100 : Int32) ≤ ii e from n_le (k := 100) (by omega) (by omega) (by omega) (by omega) (by omega)), cv_gd_pos g, if_pos (show gX6_there (sX6_hash M h) (ii e).toNatClampNeg = (1 : Int32) from th), cv_bd_eq inner]
        show fX6_digest_L9 n2 (ii e + 1) (sX6_hash M h1') = _
        rw [ii_l1, ii_add]
        exact f2
    · obtain ⟨h', C', f1, f2, f3⟩ := all_L j n1 n2 (e + 1) h C hs (by omega) (by omega) (by omega) (by omega)
      rw [if_neg z] at th
      refine ⟨h', C', ?_, ?_, f3⟩
      · unfold fX5_mixEntries_L5
        rw [if_neg (show ¬ (100 : Int32) ≤ ii e from n_le (k := 100) (by omega) (by omega) (by omega) (by omega) (by omega)), cv_bd_eq (has_no t1 (by omega) (by omega) z), if_pos z0_]
        show fX5_mixEntries_L5 n1 h (ii e + 1) C = _
        rw [ii_l1, ii_add]
        exact f1
      · unfold fX6_digest_L9
        rw [if_neg (show ¬ (100 : Int32) ≤ ii e from n_le (k := 100) (by omega) (by omega) (by omega) (by omega) (by omega)), cv_gd_pos g, if_neg (show ¬ gX6_there (sX6_hash M h) (ii e).toNatClampNeg = (1 : Int32) by rw [th]; decide)]
        show fX6_digest_L9 n2 (ii e + 1) (sX6_hash M h) = _
        rw [ii_l1, ii_add]
        exact f2
theorem led_L : ∀ (j n1 n2 : Nat) (e : Int) (h : Int64) (C : SX5), gX5_open C = fg true → sq n true (gX5_now C) M v a b m d c f x y xs q → 0 ≤ e → e + j = 7 → j < n1 → j < n2 → ∃ h' C', fX5_mixShelf_L5 n1 h (ii e) C = some (h', C') ∧ fX6_sayShelf_L2 n2 (ii e) (sX6_hash M h) = some (sX6_hash M h') ∧ cw C C'
  | 0, n1, n2, e, h, C, ho, hs, i0, ij, h1, h2 => by
    obtain ⟨n1, rfl⟩ : ∃ m, n1 = m + 1 := ⟨n1 - 1, by omega⟩
    obtain ⟨n2, rfl⟩ : ∃ m, n2 = m + 1 := ⟨n2 - 1, by omega⟩
    refine ⟨h, C, ?_, ?_, cw_refl C⟩
    · unfold fX5_mixShelf_L5
      rw [if_pos (show (6 : Int32) < ii e from p_lt (k := 6) (by omega) (by omega) (by omega) (by omega) (by omega))]
    · unfold fX6_sayShelf_L2
      rw [if_pos (show (7 : Int32) ≤ ii e from p_le (k := 7) (by omega) (by omega) (by omega) (by omega) (by omega))]
  | j + 1, n1, n2, e, h, C, ho, hs, i0, ij, h1, h2 => by
    obtain ⟨n1, rfl⟩ : ∃ m, n1 = m + 1 := ⟨n1 - 1, by omega⟩
    obtain ⟨n2, rfl⟩ : ∃ m, n2 = m + 1 := ⟨n2 - 1, by omega⟩
    obtain ⟨r, C1, e1, e2, e3⟩ := ledgerOf_eq (sq_hash hs h) ho (k := e) i0 (by omega)
    obtain ⟨h', C', f1, f2, f3⟩ := led_L j n1 n2 (e + 1) (31 * h + r.toInt64) C1 (e3.1.trans ho) (sq_cw hs e3) (by omega) (by omega) (by omega) (by omega)
    refine ⟨h', C', ?_, ?_, cw_trans e3 f3⟩
    · unfold fX5_mixShelf_L5
      rw [if_neg (show ¬ (6 : Int32) < ii e from n_lt (k := 6) (by omega) (by omega) (by omega) (by omega) (by omega)), cv_bd_eq e1]
      show fX5_mixShelf_L5 n1 (31 * h + r.toInt64) (ii e + 1) C1 = _
      rw [ii_l1, ii_add]
      exact f1
    · unfold fX6_sayShelf_L2
      rw [if_neg (show ¬ (7 : Int32) ≤ ii e from n_le (k := 7) (by omega) (by omega) (by omega) (by omega) (by omega)), cv_bd_eq e2]
      show fX6_sayShelf_L2 n2 (ii e + 1) (sX6_hash M (31 * h + r.toInt64)) = _
      rw [ii_l1, ii_add]
      exact f2
end
section
variable {n : Int} {C : SX5} {M : SX6}
theorem would_D (hI : Inv n C M) (hl : fX6_lacks M = some (ii 0)) : ∃ w C' M' r7, fX4_isFull (gX3_tree (gX5_now C)) = some r7 ∧ (if r7 = 0 then cv_bd (fX5_would C (50 : Int32)) (fun r18 => some ((r18.1).toInt64, r18.2)) else some ((-1 : Int64), C)) = some (w, C') ∧ (if gX6_many M ((0 : Int32)).toNatClampNeg = (40 : Int32) then some ((-1 : Int64), M) else cv_bd (fX6_wouldOf M (50 : Int32)) (fun r18 => some ((r18.1).toInt64, r18.2))) = some (w, M') ∧ Inv n C' M' ∧ sc M M' := by
  obtain ⟨ho, v, a, b, m, d, c, f, x, y, xs, q, hs⟩ := Inv_open hI hl
  obtain ⟨⟨t1, t2, t3, t4, t5, t6⟩, g2, -⟩ := id hs
  have s0 := sz_nonneg v t1.1
  have s1 := t1.2.2.1
  have hm : gX6_many M ((0 : Int32)).toNatClampNeg = ii (sz v) := many6 t2
  by_cases y : sz v = 40
  · refine ⟨-1, C, M, ii 1, full_yes t1 y, if_neg z1_, ?_, hI, sc_refl M⟩
    rw [hm, if_pos (show ii (sz v) = (40 : Int32) by rw [y]; rfl)]
  · obtain ⟨M', e1, e2⟩ := would6 hs (k := 50) (by omega) (by omega) (by omega)
    have e1' : fX6_wouldOf M (50 : Int32) = some (if 50 ∈ ks v then ii (-1) else ii (adN a b v 50), M') := e1
    have key : ∃ C', fX5_would C (50 : Int32) = some (if 50 ∈ ks v then ii (-1) else ii (adN a b v 50), C') ∧ cw C C' := by
      have k1 : fX5_isNoKey (50 : Int32) = some (ii 0) := rfl
      unfold fX5_would
      rw [cv_bd_eq k1, if_pos z0_, ho, if_neg fgT, cv_bd_eq (full_no t1 (by omega)), if_pos z0_]
      by_cases z : (50 : Int) ∈ ks v
      · have hh : fX4_has (gX3_tree (gX5_now C)) (50 : Int32) = some (ii 1) := has_yes t1 z
        rw [cv_bd_eq hh, if_neg z1_, if_pos z]
        exact ⟨C, rfl, cw_refl C⟩
      · have hh : fX4_has (gX3_tree (gX5_now C)) (50 : Int32) = some (ii 0) := has_no t1 (k := 50) (by omega) (by omega) z
        have hw : fX4_wouldBuild (gX3_tree (gX5_now C)) (50 : Int32) = _ := would_eq t1 (g2.1 rfl).1 t3 (k := 50) (by omega) (by omega) (by omega)
        rw [cv_bd_eq hh, if_pos z0_, if_neg z, cv_bd_eq hw, cv_lt_eq]
        exact ⟨_, rfl, ⟨rfl, rfl, rfl, rfl, rfl, _, rfl⟩⟩
    obtain ⟨C', k1, k2⟩ := key
    refine ⟨(if (50 : Int) ∈ ks v then ii (-1) else ii (adN a b v 50)).toInt64, C', M', ii 0, full_no t1 (by omega), ?_, ?_, Inv_cw hI k2 e2, e2⟩
    · exact (if_pos z0_).trans (cv_bd_eq k1 _)
    · rw [hm, if_neg (show ¬ ii (sz v) = (40 : Int32) from i_ne (b := 40) (by omega) (by omega) (by omega) (by omega) y)]
      exact cv_bd_eq e1' _
theorem replay_D (hI : Inv n C M) (hl : fX6_lacks M = some (ii 0)) {u : Int32} (hu : u = 0 ∨ u = 1) : ∃ r C' M', fX5_replay C (2 : Int32) (3 : Int32) u = some (r, C') ∧ fX6_replayOf M (2 : Int32) (3 : Int32) u = some (r, M') ∧ Inv n C' M' ∧ sc M M' := by
  obtain ⟨ho, v, a, b, m, d, c, f, x, y, xs, q, hs⟩ := Inv_open hI hl
  have hr : rat 2 3 := Or.inl ⟨rfl, rfl⟩
  obtain ⟨r, C', M', e1, e2, e3, e4⟩ := replayOf6 hs hr u
  refine ⟨r, C', M', ?_, e2, Inv_tr hI e3 e4, e4⟩
  have k1 : fX5_isRatio (2 : Int32) (3 : Int32) = some (ii 1) := (rat_yes hr).1
  have u1 : ¬ u < 0 := by rcases hu with rfl | rfl <;> decide
  have u2 : u ≤ (1 : Int32) := by rcases hu with rfl | rfl <;> decide
  unfold fX5_replay
  rw [cv_bd_eq k1, if_neg z1_, if_neg u1, if_pos u2, ho, if_neg fgT]
  exact e1
theorem shelf_D (hI : Inv n C M) (hl : fX6_lacks M = some (ii 0)) (h : Int64) : ∃ h' C' M', fX5_mixShelf C h = some (h', C') ∧ fX6_sayShelf (sX6_hash M h) = some (sX6_hash M' h') ∧ Inv n C' M' := by
  obtain ⟨ho, v, a, b, m, d, c, f, x, y, xs, q, hs⟩ := Inv_open hI hl
  obtain ⟨h1, C1, a1, a2, a3⟩ := led_L (M := M) 7 256 256 0 h C ho hs (by omega) (by omega) (by omega) (by omega)
  have I1 : Inv n C1 (sX6_hash M h1) := Inv_hash (Inv_cw hI a3 (sc_refl M)) h1
  have L1 : fX6_lacks (sX6_hash M h1) = some (ii 0) := hl
  obtain ⟨w, C2, M2, r7, b0, b1, b2, I2, b4⟩ := would_D I1 L1
  have L2 : fX6_lacks M2 = some (ii 0) := (lacks_sc b4).trans L1
  have H2 : gX6_hash M2 = h1 := b4.2.2.2.2.2.2.2.2.2
  obtain ⟨M3, hM3⟩ : ∃ M3, M3 = sX6_hash M2 (31 * h1 + w) := ⟨_, rfl⟩
  have I3 : Inv n C2 M3 := by rw [hM3]; exact Inv_hash I2 _
  have L3 : fX6_lacks M3 = some (ii 0) := by rw [hM3]; exact L2
  obtain ⟨ho3, v3, a3', b3', m3, d3, c3, f3, x3, y3, xs3, q3, hs3⟩ := Inv_open I3 L3
  obtain ⟨r4, M4, c1, c2, c4⟩ := aheadOf6 hs3 ho3
  have I4 : Inv n C2 M4 := Inv_cw I3 (cw_refl C2) c4
  have L4 : fX6_lacks M4 = some (ii 0) := (lacks_sc c4).trans L3
  have H4 : gX6_hash M4 = 31 * h1 + w := c4.2.2.2.2.2.2.2.2.2.trans (by rw [hM3]; rfl)
  obtain ⟨M5, hM5⟩ : ∃ M5, M5 = sX6_hash M4 (31 * (31 * h1 + w) + r4.toInt64) := ⟨_, rfl⟩
  have I5 : Inv n C2 M5 := by rw [hM5]; exact Inv_hash I4 _
  have L5 : fX6_lacks M5 = some (ii 0) := by rw [hM5]; exact L4
  obtain ⟨r6, C6, M6, d1, d2, I6, d4⟩ := replay_D I5 L5 (u := 0) (Or.inl rfl)
  have L6 : fX6_lacks M6 = some (ii 0) := (lacks_sc d4).trans L5
  have H6 : gX6_hash M6 = 31 * (31 * h1 + w) + r4.toInt64 := d4.2.2.2.2.2.2.2.2.2.trans (by rw [hM5]; rfl)
  obtain ⟨M7, hM7⟩ : ∃ M7, M7 = sX6_hash M6 (31 * (31 * (31 * h1 + w) + r4.toInt64) + r6.toInt64) := ⟨_, rfl⟩
  have I7 : Inv n C6 M7 := by rw [hM7]; exact Inv_hash I6 _
  have L7 : fX6_lacks M7 = some (ii 0) := by rw [hM7]; exact L6
  obtain ⟨r8, C8, M8, e1, e2, I8, e4⟩ := replay_D I7 L7 (u := 1) (Or.inr rfl)
  have H8 : gX6_hash M8 = 31 * (31 * (31 * h1 + w) + r4.toInt64) + r6.toInt64 := e4.2.2.2.2.2.2.2.2.2.trans (by rw [hM7]; rfl)
  have s2 : fX6_say M2 w = some M3 := by rw [hM3, ← H2]; rfl
  have s4 : fX6_say M4 r4.toInt64 = some M5 := by rw [hM5, ← H4]; rfl
  have s6 : fX6_say M6 r6.toInt64 = some M7 := by rw [hM7, ← H6]; rfl
  have s8 : fX6_say M8 r8.toInt64 = some (sX6_hash M8 (31 * (31 * (31 * (31 * h1 + w) + r4.toInt64) + r6.toInt64) + r8.toInt64)) := by rw [← H8]; rfl
  have gt : 0 ≤ ((0 : Int32)).toInt ∧ ((0 : Int32)).toInt < 2 := by decide
  have a1' : fX5_mixShelf_L5 256 h (0 : Int32) C = some (h1, C1) := a1
  have a2' : fX6_sayShelf_L2 256 (0 : Int32) (sX6_hash M h) = some (sX6_hash M h1) := a2
  refine ⟨31 * (31 * (31 * (31 * h1 + w) + r4.toInt64) + r6.toInt64) + r8.toInt64, C8, M8, ?_, ?_, I8⟩
  · unfold fX5_mixShelf
    refine (cv_bd_eq a1' _).trans ?_
    refine (cv_bd_eq b0 _).trans ?_
    refine (cv_bd_eq b1 _).trans ?_
    show cv_bd (fX5_ahead C2) _ = _
    refine (cv_bd_eq c1 _).trans ?_
    show cv_bd (fX5_replay C2 (2 : Int32) (3 : Int32) (0 : Int32)) _ = _
    refine (cv_bd_eq d1 _).trans ?_
    show cv_bd (fX5_replay C6 (2 : Int32) (3 : Int32) (1 : Int32)) _ = _
    exact cv_bd_eq e1 _
  · unfold fX6_sayShelf
    refine (cv_bd_eq a2' _).trans ?_
    refine (cv_gd_pos gt _).trans ?_
    refine (cv_bd_eq b2 _).trans ?_
    refine (cv_bd_eq s2 _).trans ?_
    refine (cv_bd_eq c2 _).trans ?_
    refine (cv_bd_eq s4 _).trans ?_
    refine (cv_bd_eq d2 _).trans ?_
    refine (cv_bd_eq s6 _).trans ?_
    refine (cv_bd_eq e2 _).trans ?_
    exact cv_bd_eq s8 _
theorem pg_L {P : Int} (hp : pgR (gX5_page C) (gX6_page M) (gX6_pageMany M) P) : ∀ (j n1 n2 : Nat) (e : Int) (h : Int64), 0 ≤ e → e + j = P → j < n1 → j < n2 → ∃ h', fX5_digest_L49 C n1 h (ii e) = some h' ∧ fX6_digest_L97 n2 (ii e) (sX6_hash M h) = some (sX6_hash M h')
  | 0, n1, n2, e, h, i0, ij, h1, h2 => by
    obtain ⟨n1, rfl⟩ : ∃ m, n1 = m + 1 := ⟨n1 - 1, by omega⟩
    obtain ⟨n2, rfl⟩ : ∃ m, n2 = m + 1 := ⟨n2 - 1, by omega⟩
    have hP := hp.2.2.2.1
    refine ⟨h, ?_, ?_⟩
    · unfold fX5_digest_L49
      rw [hp.1, if_pos (p_le (by omega) (by omega) (by omega) (by omega) (by omega))]
    · unfold fX6_digest_L97
      rw [show gX6_pageMany (sX6_hash M h) = ii P from hp.2.1, if_pos (p_le (by omega) (by omega) (by omega) (by omega) (by omega))]
  | j + 1, n1, n2, e, h, i0, ij, h1, h2 => by
    obtain ⟨n1, rfl⟩ : ∃ m, n1 = m + 1 := ⟨n1 - 1, by omega⟩
    obtain ⟨n2, rfl⟩ : ∃ m, n2 = m + 1 := ⟨n2 - 1, by omega⟩
    have hP := hp.2.2.2.1
    have g := ii_in (k := e) (n := 54) i0 (by omega) (by omega)
    have le : gX1_letters (gX5_page C) (ii e).toNatClampNeg = gX6_page M (ii e).toNatClampNeg := by
      rw [rd_ii (gX1_letters (gX5_page C)) i0 (by omega), rd_ii (gX6_page M) i0 (by omega), (hp.2.2.2.2 e i0 (by omega)).1]
    obtain ⟨h', f1, f2⟩ := pg_L hp j n1 n2 (e + 1) (31 * h + (gX6_page M (ii e).toNatClampNeg).toInt64) (by omega) (by omega) (by omega) (by omega)
    refine ⟨h', ?_, ?_⟩
    · unfold fX5_digest_L49
      rw [hp.1, if_neg (n_le (by omega) (by omega) (by omega) (by omega) (by omega)), cv_gd_pos g, le]
      show fX5_digest_L49 C n1 (31 * h + (gX6_page M (ii e).toNatClampNeg).toInt64) (ii e + 1) = _
      rw [ii_l1, ii_add]
      exact f1
    · unfold fX6_digest_L97
      rw [show gX6_pageMany (sX6_hash M h) = ii P from hp.2.1, if_neg (n_le (by omega) (by omega) (by omega) (by omega) (by omega)), cv_gd_pos g]
      show fX6_digest_L97 n2 (ii e + 1) (sX6_hash M (31 * h + (gX6_page M (ii e).toNatClampNeg).toInt64)) = _
      rw [ii_l1, ii_add]
      exact f2
theorem cnt_L (hn : 0 ≤ n ∧ n ≤ 10000) (hI : Inv n C M) : ∀ (j n1 n2 : Nat) (e : Int) (h : Int64), 0 ≤ e → e + j = 8 → j < n1 → j < n2 → ∃ h', fX5_digest_L83 C n1 h (ii e) = some h' ∧ fX6_digest_L124 n2 (ii e) (sX6_hash M h) = some (sX6_hash M h')
  | 0, n1, n2, e, h, i0, ij, h1, h2 => by
    obtain ⟨n1, rfl⟩ : ∃ m, n1 = m + 1 := ⟨n1 - 1, by omega⟩
    obtain ⟨n2, rfl⟩ : ∃ m, n2 = m + 1 := ⟨n2 - 1, by omega⟩
    refine ⟨h, ?_, ?_⟩
    · unfold fX5_digest_L83
      rw [if_pos (show (7 : Int32) < ii e from p_lt (k := 7) (by omega) (by omega) (by omega) (by omega) (by omega))]
    · unfold fX6_digest_L124
      rw [if_pos (show (8 : Int32) ≤ ii e from p_le (k := 8) (by omega) (by omega) (by omega) (by omega) (by omega))]
  | j + 1, n1, n2, e, h, i0, ij, h1, h2 => by
    obtain ⟨n1, rfl⟩ : ∃ m, n1 = m + 1 := ⟨n1 - 1, by omega⟩
    obtain ⟨n2, rfl⟩ : ∃ m, n2 = m + 1 := ⟨n2 - 1, by omega⟩
    obtain ⟨r, e1, e2⟩ := B_count hn (Inv_hash hI h) (ii e)
    obtain ⟨h', f1, f2⟩ := cnt_L hn hI j n1 n2 (e + 1) (31 * h + r.toInt64) (by omega) (by omega) (by omega) (by omega)
    refine ⟨h', ?_, ?_⟩
    · unfold fX5_digest_L83
      rw [if_neg (show ¬ (7 : Int32) < ii e from n_lt (k := 7) (by omega) (by omega) (by omega) (by omega) (by omega)), cv_bd_eq e1]
      show fX5_digest_L83 C n1 (31 * h + r.toInt64) (ii e + 1) = _
      rw [ii_l1, ii_add]
      exact f1
    · unfold fX6_digest_L124
      rw [if_neg (show ¬ (8 : Int32) ≤ ii e from n_le (k := 8) (by omega) (by omega) (by omega) (by omega) (by omega)), cv_bd_eq e2]
      show fX6_digest_L124 n2 (ii e + 1) (sX6_hash M (31 * h + r.toInt64)) = _
      rw [ii_l1, ii_add]
      exact f2
theorem B_digest (hn : 0 ≤ n ∧ n ≤ 10000) (h : Inv n C M) : ∃ r C' M', fX5_digest C = some (r, C') ∧ fX6_digest M = some (r, M') ∧ Inv n C' M' := by
  have hI := h
  obtain ⟨o, g_, P, r, q', h1, h2, h3, ⟨v, a, b, m, d, c, f, x, y, xs, q, hs⟩, h5⟩ := h
  obtain ⟨k1, C1, a1, a2, a3⟩ := all_L (M := M) 100 256 256 0 (1373 : Int64) C hs (by omega) (by omega) (by omega) (by omega)
  have a1' : fX5_mixEntries C (1373 : Int64) = some (k1, C1) := cv_bd_eq (x := fX5_mixEntries_L5 256 (1373 : Int64) (ii 0) C) a1 _
  have a2' : fX6_digest_L9 256 (0 : Int32) (sX6_hash M (1373 : Int64)) = some (sX6_hash M k1) := a2
  have I1 : Inv n C1 M := Inv_cw hI a3 (sc_refl M)
  have o1 : gX5_open C1 = fg o := a3.1.trans h1.1
  have hl : fX6_lacks (sX6_hash M k1) = some (if o = true then ii 0 else ii 1) := lacks6 hs
  obtain ⟨k2, C2, M2, b1, b2, I2⟩ : ∃ k2 C2 M2, (if gX5_open C1 = 0 then some (k1, C1) else cv_bd (fX5_mixShelf C1 k1) fun r21 => some (r21.1, r21.2)) = some (k2, C2) ∧ (if (if o = true then ii 0 else ii 1) = 0 then cv_bd (fX6_sayShelf (sX6_hash M k1)) (fun r33 => some r33) else some (sX6_hash M k1)) = some (sX6_hash M2 k2) ∧ Inv n C2 M2 := by
    cases o with
    | false => exact ⟨k1, C1, M, by rw [o1]; exact if_pos fgF, if_neg z1_, I1⟩
    | true =>
      obtain ⟨k2, C2, M2, c1, c2, c3⟩ := shelf_D I1 (lacksT hs) k1
      exact ⟨k2, C2, M2, by rw [o1]; exact (if_neg fgT).trans (cv_bd_eq c1 _), (if_pos z0_).trans (cv_bd_eq c2 _), c3⟩
  have I2' := I2
  obtain ⟨o2, g2, P2, r2, q2', h12, h22, h32, ⟨v2, a_2, b_2, m2, d2, c2, f2, x2, y2, xs2, q2, hs2⟩, h52⟩ := I2
  obtain ⟨t, r', s1, s2, s3, s4⟩ := askOf6 hs2 (k := 7) (by omega) (by omega)
  have s2' : fX6_sortsOf (sX6_hash M2 k2) (7 : Int32) = some t := by
    obtain ⟨t2, r2', u1, u2, u3, u4⟩ := askOf6 (sq_hash hs2 k2) (k := 7) (by omega) (by omega)
    rw [u1] at s1
    rw [← Option.some.inj s1]
    exact u2
  have s4' : fX6_askOf (sX6_hash M2 (31 * k2 + t.toInt64)) (7 : Int32) = some r' := by
    obtain ⟨t2, r2', u1, u2, u3, u4⟩ := askOf6 (sq_hash hs2 (31 * k2 + t.toInt64)) (k := 7) (by omega) (by omega)
    rw [u1] at s1
    rw [← Option.some.inj s1, u3] at s3
    rw [← Option.some.inj s3]
    exact u4
  have w0 : fX5_sorts C2 (7 : Int32) (0 : Int32) = some t := by
    have n7 : fX5_isNoKey (7 : Int32) = some (ii 0) := rfl
    have s1' : fX2_sortsOf (gX3_seen (gX5_now C2)) (7 : Int32) = some t := s1
    unfold fX5_sorts
    rw [cv_bd_eq n7, if_pos z0_, if_neg (show ¬ (0 : Int32) < 0 by decide), if_pos (show (0 : Int32) ≤ 1 by decide), cv_bd_eq s1', if_pos rfl]
  have w1 : fX5_sorts C2 (7 : Int32) (1 : Int32) = some r' := by
    have n7 : fX5_isNoKey (7 : Int32) = some (ii 0) := rfl
    have s1' : fX2_sortsOf (gX3_seen (gX5_now C2)) (7 : Int32) = some t := s1
    unfold fX5_sorts
    rw [cv_bd_eq n7, if_pos z0_, if_neg (show ¬ (1 : Int32) < 0 by decide), if_pos (show (1 : Int32) ≤ 1 by decide), cv_bd_eq s1', if_neg (show ¬ (1 : Int32) = 0 by decide), cv_bd_eq s3]
  obtain ⟨k4, p1, p2⟩ := pg_L h22 P2.toNat 256 256 0 (31 * (31 * k2 + t.toInt64) + r'.toInt64) (by omega) (by have := h22.2.2.1; omega) (by have := h22.2.2.2.1; omega) (by have := h22.2.2.2.1; omega)
  obtain ⟨k5, z1, z2⟩ := cnt_L hn I2' 8 256 256 0 k4 (by omega) (by omega) (by omega) (by omega)
  have p1' : fX5_digest_L49 C2 256 (31 * (31 * k2 + t.toInt64) + r'.toInt64) (0 : Int32) = some k4 := p1
  have p2' : fX6_digest_L97 256 (0 : Int32) (sX6_hash M2 (31 * (31 * k2 + t.toInt64) + r'.toInt64)) = some (sX6_hash M2 k4) := p2
  have z1' : fX5_digest_L83 C2 256 k4 (0 : Int32) = some k5 := z1
  have z2' : fX6_digest_L124 256 (0 : Int32) (sX6_hash M2 k4) = some (sX6_hash M2 k5) := z2
  have y1 : fX6_say (sX6_hash M2 k2) t.toInt64 = some (sX6_hash M2 (31 * k2 + t.toInt64)) := rfl
  have y2' : fX6_say (sX6_hash M2 (31 * k2 + t.toInt64)) r'.toInt64 = some (sX6_hash M2 (31 * (31 * k2 + t.toInt64) + r'.toInt64)) := rfl
  refine ⟨k5, C2, sX6_hash M2 k5, ?_, ?_, Inv_hash I2' k5⟩
  · unfold fX5_digest
    refine (cv_bd_eq a1' _).trans ?_
    refine (cv_bd_eq b1 _).trans ?_
    refine (cv_bd_eq w0 _).trans ?_
    show cv_bd (fX5_sorts C2 (7 : Int32) (1 : Int32)) _ = _
    refine (cv_bd_eq w1 _).trans ?_
    show cv_bd (fX5_digest_L49 C2 256 (31 * (31 * k2 + t.toInt64) + r'.toInt64) (0 : Int32)) _ = _
    refine (cv_bd_eq p1' _).trans ?_
    exact cv_bd_eq z1' _
  · unfold fX6_digest
    rw [cv_lt_eq]
    refine (cv_bd_eq a2' _).trans ?_
    refine (cv_bd_eq hl _).trans ?_
    refine (cv_bd_eq b2 _).trans ?_
    refine (cv_bd_eq s2' _).trans ?_
    refine (cv_bd_eq y1 _).trans ?_
    refine (cv_bd_eq s4' _).trans ?_
    refine (cv_bd_eq y2' _).trans ?_
    refine (cv_bd_eq p2' _).trans ?_
    exact cv_bd_eq z2' _
end
