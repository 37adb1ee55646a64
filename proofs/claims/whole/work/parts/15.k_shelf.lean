/-! both: a SHELF is read -/
def shK (S : SX6) : Option (Int32 × SX6) :=
  cv_gd (0 ≤ ((0 : Int32)).toInt ∧ ((0 : Int32)).toInt < 54) <|
  cv_lt (sX6_ratioA S (((gX6_page S) ((0 : Int32)).toNatClampNeg) - (48 : Int32))) fun s6 =>
  cv_gd (0 ≤ ((1 : Int32)).toInt ∧ ((1 : Int32)).toInt < 54) <|
  cv_lt (sX6_ratioB s6 (((gX6_page s6) ((1 : Int32)).toNatClampNeg) - (48 : Int32))) fun s8 =>
  cv_gd (0 ≤ ((3 : Int32)).toInt ∧ ((3 : Int32)).toInt < 54) <|
  cv_lt (sX6_fee s8 (((gX6_page s8) ((3 : Int32)).toNatClampNeg) - (48 : Int32))) fun s10 =>
  cv_bd (fX6_empty s10 (0 : Int32)) fun r11 =>
  cv_lt (sX6_credit r11 (0 : Int32)) fun s12 =>
  cv_lt (sX6_lowest s12 (0 : Int32)) fun s13 =>
  cv_lt (sX6_logMany s13 (0 : Int32)) fun s14 =>
  cv_lt (sX6_seenMany s14 (0 : Int32)) fun s15 =>
  cv_bd (fX6_shelf_L109 256 (5 : Int32) s15) fun j23 =>
  cv_lt (sX6_shelvesRead j23 ((gX6_shelvesRead j23) + (1 : Int32))) fun s25 =>
  cv_lt (sX6_pageMany s25 (0 : Int32)) fun s26 =>
  cv_gd (0 ≤ ((0 : Int32)).toInt ∧ ((0 : Int32)).toInt < 2) <|
  some (((gX6_many s26) ((0 : Int32)).toNatClampNeg), s26)
theorem shelf6 {M : SX6} {P r : Int} (p2 : gX6_pageMany M = ii P) (hP : 0 ≤ P ∧ P ≤ 54) (hf : fX6_faultOf M = some (ii r)) (hr : 0 ≤ r ∧ r ≤ P) : fX6_shelf M = if (P = 5 ∨ (5 < P ∧ (P - 5) % 6 = 5)) ∧ r = P then shK M else some ((-103 : Int32), M) := by
  unfold fX6_shelf
  rw [p2, cv_bd_eq hf]
  by_cases c1 : P < 5
  · rw [if_pos (show ii P < (5 : Int32) from p_lt (c := 5) (by omega) (by omega) (by omega) (by omega) c1), if_neg (by omega)]
  · rw [if_neg (show ¬ ii P < (5 : Int32) from n_lt (c := 5) (by omega) (by omega) (by omega) (by omega) c1)]
    by_cases c2 : r < P
    · rw [if_pos (p_lt (by omega) (by omega) (by omega) (by omega) c2), if_neg (by omega)]
    · rw [if_neg (n_lt (by omega) (by omega) (by omega) (by omega) c2)]
      by_cases c3 : P ≤ 5
      · rw [if_pos (show ii P ≤ (5 : Int32) from p_le (c := 5) (by omega) (by omega) (by omega) (by omega) c3), if_pos (show (P = 5 ∨ (5 < P ∧ (P - 5) % 6 = 5)) ∧ r = P by omega)]
        rfl
      · rw [if_neg (show ¬ ii P ≤ (5 : Int32) from n_le (c := 5) (by omega) (by omega) (by omega) (by omega) c3)]
        have hm := md6 (i := P) (e := (P - 5) / 6) (q := (P - 5) % 6) (by omega) (by omega) (by omega) (by omega) (by omega)
        rw [hm]
        by_cases c4 : (P - 5) % 6 = 5
        · rw [if_pos (show ii ((P - 5) % 6) = (5 : Int32) by rw [c4]; rfl), if_pos (show (P = 5 ∨ (5 < P ∧ (P - 5) % 6 = 5)) ∧ r = P by omega)]
          rfl
        · rw [if_neg (show ¬ ii ((P - 5) % 6) = (5 : Int32) from i_ne (b := 5) (by omega) (by omega) (by omega) (by omega) c4), if_neg (by omega)]
theorem isShelf1 {p : SX1} {P r : Int} (p1 : gX1_length p = ii P) (hP : 0 ≤ P ∧ P ≤ 54) (hf : fX1_firstWrong p = some (ii r)) (hr : 0 ≤ r ∧ r ≤ P) : fX1_isShelf p = some (if (P = 5 ∨ (5 < P ∧ (P - 5) % 6 = 5)) ∧ r = P then ii 1 else ii 0) := by
  have W : (if ii P = (5 : Int32) then some (1 : Int32) else if ii P ≤ (5 : Int32) then some (0 : Int32) else if (ii P - 5) - (ii P - 5) / 6 * 6 = (5 : Int32) then some (1 : Int32) else some (0 : Int32)) = some (if P = 5 ∨ (5 < P ∧ (P - 5) % 6 = 5) then ii 1 else ii 0) := by
    by_cases c1 : P = 5
    · rw [if_pos (show ii P = (5 : Int32) by rw [c1]; rfl), if_pos (Or.inl c1)]; rfl
    · rw [if_neg (show ¬ ii P = (5 : Int32) from i_ne (b := 5) (by omega) (by omega) (by omega) (by omega) c1)]
      by_cases c3 : P ≤ 5
      · rw [if_pos (show ii P ≤ (5 : Int32) from p_le (c := 5) (by omega) (by omega) (by omega) (by omega) c3), if_neg (by omega)]; rfl
      · rw [if_neg (show ¬ ii P ≤ (5 : Int32) from n_le (c := 5) (by omega) (by omega) (by omega) (by omega) c3)]
        have hm := md6 (i := P) (e := (P - 5) / 6) (q := (P - 5) % 6) (by omega) (by omega) (by omega) (by omega) (by omega)
        rw [hm]
        by_cases c4 : (P - 5) % 6 = 5
        · rw [if_pos (show ii ((P - 5) % 6) = (5 : Int32) by rw [c4]; rfl), if_pos (by omega)]; rfl
        · rw [if_neg (show ¬ ii ((P - 5) % 6) = (5 : Int32) from i_ne (b := 5) (by omega) (by omega) (by omega) (by omega) c4), if_neg (by omega)]; rfl
  unfold fX1_isShelf
  rw [p1, cv_bd_eq hf]
  refine (cv_bd_eq W _).trans ?_
  by_cases c : P = 5 ∨ (5 < P ∧ (P - 5) % 6 = 5)
  · rw [if_pos c, if_neg z1_]
    by_cases d : r = P
    · rw [if_pos (show ii r = ii P by rw [d]), if_pos ⟨c, d⟩]; rfl
    · rw [if_neg (i_ne (by omega) (by omega) (by omega) (by omega) d), if_neg (fun t => d t.2)]; rfl
  · rw [if_neg c, if_pos z0_, if_neg (fun t => c t.1)]; rfl
theorem begin3 (s : SX3) (a b f : Int) : ∃ s0, fX3_begin s (ii a) (ii b) (ii f) = some s0 ∧ ct (gX3_tree s0) lf ∧ cn (gX3_tree s0) a b 0 0 0 ∧ gX3_kinds s0 = gX3_kinds s ∧ gX3_values s0 = gX3_values s ∧ gX0_length (gX3_log s0) = ii 0 ∧ gX2_length (gX3_seen s0) = ii 0 ∧ gX3_fee s0 = ii f ∧ gX3_credit s0 = ii 0 ∧ gX3_lowest s0 = ii 0 := by
  obtain ⟨T', e1, e2, e3⟩ := begin_eq (gX3_tree s) a b
  exact ⟨_, cv_bd_eq e1 _, e2, e3, rfl, rfl, rfl, rfl, rfl, rfl, rfl⟩
theorem sh_L {C : SX5} {P E n0 : Int} (hn : 0 ≤ n0 ∧ n0 ≤ 9000) (hE : (E = 0 ∧ P = 5) ∨ (1 ≤ E ∧ P = 4 + 6 * E)) {a b f : Int} {M0 : SX6} (hg : ∀ j, 0 ≤ j → j < P → pgd (rd (gX6_page M0)) j) (hp : pgR (gX5_page C) (gX6_page M0) (gX6_pageMany M0) P) :
    ∀ (m n1 n2 : Nat) (i : Int) (s : SX3) (M : SX6) (v : Tr) (m' d c x y : Int) (xs : List Int) (q : Nat), 0 ≤ i → i + m = E → sq (n0 + i) true s M v a b m' d c f x y xs q → oq M = oq M0 → (∀ k ∈ ks v, ∃ j, 0 ≤ j ∧ j < i ∧ k = 10 * (rd (gX6_page M0) (6 + 6 * j) - 48) + (rd (gX6_page M0) (7 + 6 * j) - 48)) → sz v = i → m < n1 → m < n2 →
      ∃ s' M' v' m'' d' c' x' y' xs', fX5_shelf_L54 (ii E) n1 (ii i) (sX5_now C s) = some (sX5_now C s') ∧ fX6_shelf_L109 n2 (ii (5 + 6 * i)) M = some M' ∧ oq M' = oq M0 ∧ sq (n0 + E) true s' M' v' a b m'' d' c' f x' y' xs' q
  | 0, n1, n2, i, s, M, v, m', d, c, x, y, xs, q, i0, im, hs, ho, hk, hz, h1, h2 => by
    obtain ⟨n1, rfl⟩ : ∃ m, n1 = m + 1 := ⟨n1 - 1, by omega⟩
    obtain ⟨n2, rfl⟩ : ∃ m, n2 = m + 1 := ⟨n2 - 1, by omega⟩
    have hP := hp.2.2.2.1
    obtain rfl : i = E := by omega
    refine ⟨s, M, v, m', d, c, x, y, xs, ?_, ?_, ho, hs⟩
    · unfold fX5_shelf_L54
      rw [if_pos (p_le (by omega) (by omega) (by omega) (by omega) (by omega))]
    · unfold fX6_shelf_L109
      rw [oq_pageMany ho, hp.2.1, if_pos (p_le (by omega) (by omega) (by omega) (by omega) (by omega))]
  | m + 1, n1, n2, i, s, M, v, m', d, c, x, y, xs, q, i0, im, hs, ho, hk, hz, h1, h2 => by
    obtain ⟨n1, rfl⟩ : ∃ m, n1 = m + 1 := ⟨n1 - 1, by omega⟩
    obtain ⟨n2, rfl⟩ : ∃ m, n2 = m + 1 := ⟨n2 - 1, by omega⟩
    have hP := hp.2.2.2.1
    have hp' : pgR (gX5_page C) (gX6_page M) (gX6_pageMany M) P := by rw [oq_page ho, oq_pageMany ho]; exact hp
    have g5 := (hg (5 + 6 * i) (by omega) (by omega)).2.2.2.1 i i0 rfl
    have g6 := (hg (6 + 6 * i) (by omega) (by omega)).2.2.2.2.1 i i0 rfl
    have g7 := (hg (7 + 6 * i) (by omega) (by omega)).2.2.2.2.2.1 i i0 rfl
    have g9 := (hg (9 + 6 * i) (by omega) (by omega)).2.2.2.2.2.2 i i0 rfl
    have K1 := kindOf1 hp (e := i) i0 (by omega)
    have K2 := keyOf1 hp (e := i) i0 (by omega)
    have K3 := valueOf1 hp (e := i) i0 (by omega)
    have B1 := kindBy6 hp (i := 5 + 6 * i) (by omega) (by omega)
    have B2 := keyAt6 hp' (j := 6 + 6 * i) (by omega) (by omega)
    have k5 := kb_in (rd (gX6_page M0) (5 + 6 * i))
    unfold dgt at g6 g7 g9
    rw [oq_page ho, show 6 + 6 * i + 1 = 7 + 6 * i by omega, show 10 * (rd (gX6_page M0) (6 + 6 * i) - 48) + rd (gX6_page M0) (7 + 6 * i) - 48 = 10 * (rd (gX6_page M0) (6 + 6 * i) - 48) + (rd (gX6_page M0) (7 + 6 * i) - 48) by omega] at B2
    obtain ⟨ky, hky⟩ : ∃ ky, ky = 10 * (rd (gX6_page M0) (6 + 6 * i) - 48) + (rd (gX6_page M0) (7 + 6 * i) - 48) := ⟨_, rfl⟩
    have hkn : ky ∉ ks v := fun z => by
      obtain ⟨j, j0, j1, e⟩ := hk _ z
      have q6 := (hg (6 + 6 * j) (by omega) (by omega)).2.2.2.2.1 j j0 rfl
      have q7 := ((hg (7 + 6 * j) (by omega) (by omega)).2.2.2.2.2.1 j j0 rfl).1
      unfold dgt at q6 q7
      have g71 := g7.1
      exact g7.2 j j0 j1 ⟨by omega, by omega⟩
    have g71 := g7.1
    obtain ⟨⟨w, hb, -⟩, -⟩ := id hs.1
    obtain ⟨s1, M1, r, a1, a2, -, a4, x', y', xs', a5⟩ := place_new (n := n0 + i) (by omega) hs (k := ky) (kd := kb (rd (gX6_page M0) (5 + 6 * i))) (vl := rd (gX6_page M0) (9 + 6 * i) - 48) (by omega) (by omega) hkn (by omega) (by omega) (by omega)
    have A : fX5_shelf_L54 (ii E) (n1 + 1) (ii i) (sX5_now C s) = fX5_shelf_L54 (ii E) n1 (ii (i + 1)) (sX5_now C s1) := by
      rw [fX5_shelf_L54]
      rw [if_neg (n_le (by omega) (by omega) (by omega) (by omega) (by omega)), show gX5_page (sX5_now C s) = gX5_page C from rfl, show gX5_now (sX5_now C s) = s from rfl, cv_bd_eq K1, cv_bd_eq K2, cv_bd_eq K3, ← hky, cv_bd_eq a1, cv_lt_eq, cv_lt_eq, ii_l1, ii_add]
      rfl
    have B : fX6_shelf_L109 (n2 + 1) (ii (5 + 6 * i)) M = fX6_shelf_L109 n2 (ii (5 + 6 * (i + 1))) M1 := by
      rw [fX6_shelf_L109]
      rw [oq_pageMany ho, hp.2.1, if_neg (n_le (by omega) (by omega) (by omega) (by omega) (by omega)), cv_gd_pos (ii_in (k := 5 + 6 * i) (n := 54) (by omega) (by omega) (by omega)), ii_l1, ii_l4, ii_l6, ii_l48, ii_add, ii_add, ii_add, show 5 + 6 * i + 1 = 6 + 6 * i by omega, show 5 + 6 * i + 4 = 9 + 6 * i by omega, show 5 + 6 * i + 6 = 5 + 6 * (i + 1) by omega, rd_ii (gX6_page M) (k := 5 + 6 * i) (by omega) (by omega), rd_ii (gX6_page M) (k := 9 + 6 * i) (by omega) (by omega), oq_page ho, cv_bd_eq B1, cv_bd_eq B2, cv_gd_pos (ii_in (k := 9 + 6 * i) (n := 54) (by omega) (by omega) (by omega)), ii_sub, ← hky, cv_bd_eq a2, cv_lt_eq]
    rw [A, B]
    refine sh_L hn hE hg hp m n1 n2 (i + 1) s1 M1 (adT a b v ky) _ _ _ x' y' xs' q (by omega) (by omega) (by rw [show n0 + (i + 1) = n0 + i + 1 by omega]; exact a5) (a4.trans ho) (fun k kk => ?_) ?_ (by omega) (by omega)
    · rcases (ad_ks w hb (by omega) (by omega) hkn (by omega) k).mp kk with e | e
      · exact ⟨i, i0, by omega, by rw [e]; exact hky⟩
      · obtain ⟨j, j0, j1, e2⟩ := hk k e
        exact ⟨j, j0, by omega, e2⟩
    · rw [ad_sz w hb (by omega) (by omega) hkn (by omega), hz]
theorem B_shelf {n : Int} {C : SX5} {M : SX6} (hn : 0 ≤ n ∧ n ≤ 9000) (h : Inv n C M) : ∃ r C' M', fX5_shelf C = some (r, C') ∧ fX6_shelf M = some (r, M') ∧ Inv (n + 9) C' M' := by
  have hI := Inv_mono h (show n ≤ n + 9 by omega)
  obtain ⟨o, g_, P, r, q', h1, h2, h3, h4, h5⟩ := h
  obtain ⟨w, w1, w2, w3, w4, w5⟩ := fault6 h2
  have hP : 0 ≤ P ∧ P ≤ 54 := ⟨h2.2.2.1, h2.2.2.2.1⟩
  have i5 := isShelf1 h2.1 hP w1 ⟨w3, w4⟩
  have i6 := shelf6 h2.2.1 hP w2 ⟨w3, w4⟩
  unfold fX5_shelf
  rw [i6, cv_bd_eq i5]
  by_cases z : (P = 5 ∨ (5 < P ∧ (P - 5) % 6 = 5)) ∧ w = P
  · rw [if_pos z, if_pos z, if_neg z1_]
    have hg := w5 z.2
    obtain ⟨E, hE⟩ : ∃ E, (E = 0 ∧ P = 5) ∨ (1 ≤ E ∧ P = 4 + 6 * E) := ⟨(P - 4) / 6, by omega⟩
    have hr := (hg 1 (by omega) (by omega)).2.1 rfl
    have hfee := (hg 3 (by omega) (by omega)).2.2.1 rfl
    have D0 : fX1_digit (gX5_page C) 0 = some (ii (rd (gX6_page M) 0 - 48)) := digit1 h2 (j := 0) (by omega) (by omega)
    have D1 : fX1_digit (gX5_page C) 1 = some (ii (rd (gX6_page M) 1 - 48)) := digit1 h2 (j := 1) (by omega) (by omega)
    have D3 : fX1_digit (gX5_page C) 3 = some (ii (rd (gX6_page M) 3 - 48)) := digit1 h2 (j := 3) (by omega) (by omega)
    have En : fX1_entries (gX5_page C) = some (ii E) := by
      unfold fX1_entries
      rw [h2.1, ii_l5, ii_l1, ii_l6, ii_sub, ii_add, ii_div (by omega) (by omega) (by omega) (by omega), show (P - 5 + 1) / 6 = E by omega]
    have P0 : gX6_page M ((0 : Int32)).toNatClampNeg - 48 = ii (rd (gX6_page M) 0 - 48) := by rw [rd0 (gX6_page M), ii_l48, ii_sub]
    have P1 : gX6_page M ((1 : Int32)).toNatClampNeg - 48 = ii (rd (gX6_page M) 1 - 48) := by rw [show ((1 : Int32)).toNatClampNeg = (ii 1).toNatClampNeg from rfl, rd_ii (gX6_page M) (k := 1) (by omega) (by omega), ii_l48, ii_sub]
    have P3 : gX6_page M ((3 : Int32)).toNatClampNeg - 48 = ii (rd (gX6_page M) 3 - 48) := by rw [show ((3 : Int32)).toNatClampNeg = (ii 3).toNatClampNeg from rfl, rd_ii (gX6_page M) (k := 3) (by omega) (by omega), ii_l48, ii_sub]
    obtain ⟨a, ha⟩ : ∃ a, a = rd (gX6_page M) 0 - 48 := ⟨_, rfl⟩
    obtain ⟨b, hb⟩ : ∃ b, b = rd (gX6_page M) 1 - 48 := ⟨_, rfl⟩
    obtain ⟨f, hf⟩ : ∃ f, f = rd (gX6_page M) 3 - 48 := ⟨_, rfl⟩
    rw [← ha, ← hb] at hr
    rw [← ha] at D0 P0
    rw [← hb] at D1 P1
    rw [← hf] at D3 P3
    obtain ⟨s0, b1, b2, b3, b4, b5, b6, b7, b8, b9, b10⟩ := begin3 (gX5_now C) a b f
    obtain ⟨M1, hM1⟩ : ∃ M1, M1 = sX6_fee (sX6_ratioB (sX6_ratioA M (ii a)) (ii b)) (ii f) := ⟨_, rfl⟩
    obtain ⟨M2, e1, e2, e3, e4⟩ := empty6 M1 (t := 0) (Or.inl rfl)
    obtain ⟨M3, hM3⟩ : ∃ M3, M3 = sX6_seenMany (sX6_logMany (sX6_lowest (sX6_credit M2 0) 0) 0) 0 := ⟨_, rfl⟩
    have pg3 : gX6_page M3 = gX6_page M := by rw [hM3]; exact (ot_page e4.1).trans (by rw [hM1]; rfl)
    have pm3 : gX6_pageMany M3 = gX6_pageMany M := by rw [hM3]; exact (ot_pageMany e4.1).trans (by rw [hM1]; rfl)
    have sr3 : gX6_shelvesRead M3 = gX6_shelvesRead M := by rw [hM3]; exact (ot_shelvesRead e4.1).trans (by rw [hM1]; rfl)
    have ks3 : gX6_keptShelf M3 = gX6_keptShelf M := by rw [hM3]; exact (ot_keptShelf e4.1).trans (by rw [hM1]; rfl)
    have kd3 : gX6_kinds M3 = gX6_kinds M := by rw [hM3]; exact (ot_kinds e4.1).trans (by rw [hM1]; rfl)
    have vl3 : gX6_values M3 = gX6_values M := by rw [hM3]; exact (ot_values e4.1).trans (by rw [hM1]; rfl)
    have ra3 : gX6_ratioA M3 = ii a := by rw [hM3]; exact (ot_ratioA e4.1).trans (by rw [hM1]; rfl)
    have rb3 : gX6_ratioB M3 = ii b := by rw [hM3]; exact (ot_ratioB e4.1).trans (by rw [hM1]; rfl)
    have fe3 : gX6_fee M3 = ii f := by rw [hM3]; exact (ot_fee e4.1).trans (by rw [hM1]; rfl)
    have rc3 : rc M3 0 lf := by rw [hM3]; exact e2
    have nm3 : nm M3 0 0 0 0 := by rw [hM3]; exact e3
    obtain ⟨v, a0, b0, m, d, c, f0, x, y, xs, q, -, -, -, ⟨kv1, kv2⟩, -⟩ := id h4
    have hs : sq (n + 0) true s0 M3 lf a b 0 0 0 f 0 0 [] 0 := by
      refine ⟨⟨b2, rc3, b3, nm3, ⟨ra3, rb3⟩, by omega, by omega⟩, ⟨fun _ => ⟨hr, by omega, by omega⟩, fun t => by cases t⟩, ⟨b8, fe3⟩, ⟨?_, ?_⟩, ⟨b9, by rw [hM3]; rfl, b10, by rw [hM3]; rfl, by omega, by omega, by omega⟩, ⟨b6, by rw [hM3]; rfl, ⟨by simp, fun i hi => absurd hi (by simp)⟩, fun _ => ⟨fun k => by rw [ks_lf]; rfl, rfl⟩⟩, ⟨b7, by rw [hM3]; rfl, ⟨by omega, fun i hi => by omega⟩⟩⟩
      · rw [b4, kd3]; exact kv1
      · rw [b5, vl3]; exact kv2
    obtain ⟨s', M4, v', m'', d', c', x', y', xs', L1, L2, o4, hs'⟩ := sh_L (C := C) (P := P) (E := E) (n0 := n) hn hE (a := a) (b := b) (f := f) (M0 := M3) (by rw [pg3]; exact hg) (by rw [pg3, pm3]; exact h2) E.toNat 256 256 0 s0 M3 lf 0 0 0 0 0 [] 0 (by omega) (by omega) hs rfl (fun k kk => by rw [ks_lf] at kk; cases kk) sz_lf (by omega) (by omega)
    have L1' : fX5_shelf_L54 (ii E) 256 (0 : Int32) (sX5_now C s0) = some (sX5_now C s') := L1
    have L2' : fX6_shelf_L109 256 (5 : Int32) M3 = some M4 := by
      rw [show (5 : Int) + 6 * 0 = 5 by omega] at L2
      exact L2
    have e1' : fX6_empty M1 (0 : Int32) = some M2 := e1
    obtain ⟨M5, hM5⟩ : ∃ M5, M5 = sX6_pageMany (sX6_shelvesRead M4 (gX6_shelvesRead M4 + 1)) 0 := ⟨_, rfl⟩
    have g0 : 0 ≤ ((0 : Int32)).toInt ∧ ((0 : Int32)).toInt < 54 := by decide
    have g1 : 0 ≤ ((1 : Int32)).toInt ∧ ((1 : Int32)).toInt < 54 := by decide
    have g3 : 0 ≤ ((3 : Int32)).toInt ∧ ((3 : Int32)).toInt < 54 := by decide
    have gt : 0 ≤ ((0 : Int32)).toInt ∧ ((0 : Int32)).toInt < 2 := by decide
    have R : shK M = some (ii (sz v'), M5) := by
      unfold shK
      simp only [cv_lt_eq, cv_gd_pos g0, cv_gd_pos g1, cv_gd_pos g3, cv_gd_pos gt, eX6_page_ratioA, eX6_page_ratioB]
      rw [P0, P1, P3, ← hM1, cv_bd_eq e1', ← hM3, cv_bd_eq L2', ← hM5]
      have : gX6_many M5 ((0 : Int32)).toNatClampNeg = ii (sz v') := by rw [hM5]; exact many6 hs'.1.2.1
      rw [this]
    obtain ⟨C', hC'⟩ : ∃ C', C' = sX5_timesRead (sX5_imaged (sX5_open (sX5_page (sX5_now C s') (sX1_length (gX5_page C) 0)) 1) 0) (gX5_timesRead C + 1) := ⟨_, rfl⟩
    refine ⟨ii (sz v'), C', M5, ?_, R, true, false, 0, r + 1, q', ⟨by rw [hC']; rfl, by rw [hC']; rfl⟩, ?_, ⟨?_, ?_, ?_, by have := h3.2.2.2.1; omega, by have := h3.2.2.2.2.1; omega, h3.2.2.2.2.2.1, by have := h3.2.2.2.2.2.2.1; omega, ⟨fun t => absurd t (by decide), fun t => by have := h3.2.2.2.2.2.2.1; omega⟩, fun t => by cases t⟩, ?_, fun t => by cases t⟩
    · rw [cv_bd_eq D0, cv_bd_eq D1, cv_bd_eq D3, cv_bd_eq b1, cv_lt_eq, show gX5_page (sX5_now C s0) = gX5_page C from rfl, cv_bd_eq En, cv_bd_eq L1', hC']
      show some (gX4_number (gX3_tree s'), _) = _
      rw [hs'.1.1.2.2.2.2.2.2]
      rfl
    · rw [hC', hM5]
      exact ⟨rfl, rfl, by omega, by omega, fun j j0 j1 => by omega⟩
    · rw [hC']
      show gX5_timesRead C + 1 = ii (r + 1)
      rw [h3.1, ii_l1, ii_add]
    · rw [hM5]
      show gX6_shelvesRead M4 + 1 = ii (r + 1)
      rw [oq_shelvesRead o4, sr3, h3.2.1, ii_l1, ii_add]
    · rw [hM5]
      show gX6_keptShelf M4 = ii q'
      rw [oq_keptShelf o4, ks3, h3.2.2.1]
    · rw [hC', hM5]
      refine sr_mono (sr_eqv (M := M4) ⟨v', _, _, _, _, _, _, _, _, _, _, hs'⟩ ⟨zo_refl M4, zn_refl M4, fun _ _ _ => ⟨rfl, rfl⟩, ⟨rfl, rfl, rfl⟩, fun _ _ _ => rfl, ⟨rfl, rfl⟩, fun _ _ _ => rfl⟩) (by omega)
  · rw [if_neg z, if_neg z, if_pos z0_]
    exact ⟨_, C, M, rfl, rfl, hI⟩
