/-! the reference's trees: a part is built anew -/
def fl (row : Int → Int) (lo hi : Int) : Tr := flt row 7 lo hi
theorem flt_fuel (row : Int → Int) : ∀ (n : Nat) (lo hi : Int), hi - lo + 1 < 2 ^ n → flt row (n + 1) lo hi = flt row n lo hi
  | 0, lo, hi, h => by
    have : (2 : Int) ^ 0 = 1 := rfl
    rw [flt_s, if_pos (by omega), flt_0]
  | n + 1, lo, hi, h => by
    rw [p2] at h
    rw [flt_s row (n + 1) lo hi, flt_s row n lo hi]
    by_cases q : hi < lo
    · rw [if_pos q, if_pos q]
    · rw [if_neg q, if_neg q, flt_fuel row n _ _ (by omega), flt_fuel row n _ _ (by omega)]
theorem p6 : (2 : Int) ^ 6 = 64 := by decide
theorem fl_no (row : Int → Int) {lo hi : Int} (h : hi < lo) : fl row lo hi = lf := flt_no row 7 h
theorem fl_nd (row : Int → Int) {lo hi : Int} (h : lo ≤ hi) (h2 : hi - lo + 1 < 64) : fl row lo hi = nd (row ((lo + hi) / 2)) (fl row lo ((lo + hi) / 2 - 1)) (fl row ((lo + hi) / 2 + 1) hi) := by
  unfold fl
  rw [flt_fuel row 6 lo hi (by rw [p6]; omega), flt_s, if_neg (by omega), flt_fuel row 6 lo _ (by rw [p6]; omega), flt_fuel row 6 _ hi (by rw [p6]; omega), ← flt_fuel row 5 lo _ (by show _ < (32 : Int); omega), ← flt_fuel row 5 _ hi (by show _ < (32 : Int); omega)]
theorem fl_rt (row : Int → Int) {lo hi : Int} (h : hi - lo + 1 < 64) : rt (fl row lo hi) = if hi < lo then -1 else row ((lo + hi) / 2) := flt_rt row 7 (by rw [p7]; omega)
abbrev Sg : Type := Int × Int × Int
/-- the spans that are still to be done -/
def qs (S : SX6) (i : Int) (Q : List Sg) : Prop := ∀ j : Nat, j < Q.length → rd (gX6_spanLow S) (i + j) = (Q.getD j (0, 0, 0)).1 ∧ rd (gX6_spanHigh S) (i + j) = (Q.getD j (0, 0, 0)).2.1 ∧ rd (gX6_spanOn S) (i + j) = (Q.getD j (0, 0, 0)).2.2
theorem qs_tail {S : SX6} {i : Int} {c : Sg} {Q : List Sg} (h : qs S i (c :: Q)) : qs S (i + 1) Q := fun j hj => by
  have := h (j + 1) (by rw [List.length_cons]; omega)
  rw [show i + ((j + 1 : Nat) : Int) = i + 1 + j by omega, List.getD_cons_succ] at this
  exact this
theorem qs_head {S : SX6} {i : Int} {c : Sg} {Q : List Sg} (h : qs S i (c :: Q)) : rd (gX6_spanLow S) i = c.1 ∧ rd (gX6_spanHigh S) i = c.2.1 ∧ rd (gX6_spanOn S) i = c.2.2 := by
  have := h 0 (by simp)
  rw [List.getD_cons_zero, show i + ((0 : Nat) : Int) = i by omega] at this
  exact this
def psS (S : SX6) (y u w x : Int32) : SX6 := sX6_spanOn (sX6_spanHigh (sX6_spanLow S (upd (gX6_spanLow S) y.toNatClampNeg u)) (upd (gX6_spanHigh S) y.toNatClampNeg w)) (upd (gX6_spanOn S) y.toNatClampNeg x)
theorem qs_push {S : SX6} {i : Int} {Q : List Sg} {u w x : Int} (h : qs S i Q) (i0 : 0 ≤ i) (i1 : i + Q.length < 41) (u0 : -1 ≤ u ∧ u < 1000) (w0 : -1 ≤ w ∧ w < 1000) (x0 : -1 ≤ x ∧ x < 1000) : qs (psS S (ii (i + Q.length)) (ii u) (ii w) (ii x)) i (Q ++ [(u, w, x)]) := fun j hj => by
  rw [List.length_append, List.length_singleton] at hj
  show rd (upd (gX6_spanLow S) (ii (i + Q.length)).toNatClampNeg (ii u)) (i + j) = _ ∧ rd (upd (gX6_spanHigh S) (ii (i + Q.length)).toNatClampNeg (ii w)) (i + j) = _ ∧ rd (upd (gX6_spanOn S) (ii (i + Q.length)).toNatClampNeg (ii x)) (i + j) = _
  rw [rd_upd _ (by omega) (by omega) (by omega) (by omega) (by omega), rd_upd _ (by omega) (by omega) (by omega) (by omega) (by omega), rd_upd _ (by omega) (by omega) (by omega) (by omega) (by omega)]
  by_cases e : j = Q.length
  · rw [if_pos (by omega), if_pos (by omega), if_pos (by omega), e]
    simp
  · rw [if_neg (by omega), if_neg (by omega), if_neg (by omega), List.getD_eq_getElem?_getD, List.getElem?_append_left (by omega), ← List.getD_eq_getElem?_getD]
    exact h j (by omega)
def psh (p q y u w x : Int32) (S : SX6) : Option (Int32 × SX6) := if p ≤ q then some (y, S) else
  cv_gd (0 ≤ y.toInt ∧ y.toInt < 41) <|
  cv_lt (sX6_spanLow S (upd (gX6_spanLow S) y.toNatClampNeg u)) fun s1 =>
  cv_gd (0 ≤ y.toInt ∧ y.toInt < 41) <|
  cv_lt (sX6_spanHigh s1 (upd (gX6_spanHigh s1) y.toNatClampNeg w)) fun s2 =>
  cv_gd (0 ≤ y.toInt ∧ y.toInt < 41) <|
  cv_lt (sX6_spanOn s2 (upd (gX6_spanOn s2) y.toNatClampNeg x)) fun s3 =>
  cv_lt (y + (1 : Int32)) fun x4 =>
  some (x4, s3)
theorem psh_eq {S : SX6} {i : Int} {Q : List Sg} {p q u w x : Int} (h : qs S i Q) (i0 : 0 ≤ i) (i1 : i + Q.length ≤ 41) (hi : q < p → i + Q.length < 41) (p0 : -1 ≤ p ∧ p < 1000) (q0 : -1 ≤ q ∧ q < 1000) (u0 : -1 ≤ u ∧ u < 1000) (w0 : -1 ≤ w ∧ w < 1000) (x0 : -1 ≤ x ∧ x < 1000) {t : Int} {L R U H : Int → Int} {r n : Int} (ha : ar S t L R U H r n) :
    ∃ S', psh (ii p) (ii q) (ii (i + Q.length)) (ii u) (ii w) (ii x) S = some (ii (i + (Q ++ (if q < p then [(u, w, x)] else [])).length), S') ∧ qs S' i (Q ++ (if q < p then [(u, w, x)] else [])) ∧ ar S' t L R U H r n ∧ lo t S S' ∧ gX6_row S' = gX6_row S := by
  unfold psh
  simp (disch := omega) only [ii_le, cv_lt_eq]
  by_cases e : q < p
  · rw [if_neg (by omega), if_pos e]
    have g := hi e
    have g' := ii_in (k := i + Q.length) (n := 41) (by omega) g (by omega)
    rw [cv_gd_pos g', cv_gd_pos g', cv_gd_pos g', ii_l1, ii_add]
    refine ⟨psS S (ii (i + Q.length)) (ii u) (ii w) (ii x), ?_, qs_push h i0 g u0 w0 x0, ha, ⟨rfl, fun _ => zo_refl S⟩, rfl⟩
    rw [List.length_append, List.length_singleton, show i + ((Q.length + 1 : Nat) : Int) = i + Q.length + 1 by omega]
    rfl
  · rw [if_pos (by omega), if_neg e, List.append_nil]
    exact ⟨S, rfl, h, ha, lo_refl t S, rfl⟩
def tot : List Sg → Int
  | [] => 0
  | c :: Q => (c.2.1 - c.1 + 1) + tot Q
theorem tot_app : ∀ (P Q : List Sg), tot (P ++ Q) = tot P + tot Q
  | [], Q => by show tot Q = 0 + tot Q; omega
  | c :: P, Q => by
    show (c.2.1 - c.1 + 1) + tot (P ++ Q) = (c.2.1 - c.1 + 1) + tot P + tot Q
    rw [tot_app P Q]; omega
theorem tot_len : ∀ Q : List Sg, (∀ c ∈ Q, c.1 ≤ c.2.1) → (Q.length : Int) ≤ tot Q
  | [], _ => by show ((0 : Nat) : Int) ≤ 0; omega
  | c :: Q, h => by
    have := tot_len Q (fun d hd => h d (by simp [hd]))
    have := h c (by simp)
    show ((Q.length + 1 : Nat) : Int) ≤ (c.2.1 - c.1 + 1) + tot Q
    omega
def dj (a b : Sg) : Prop := a.2.1 < b.1 ∨ b.2.1 < a.1
theorem build_L {t : Int} (ht : t = 0 ∨ t = 1) {row : Int → Int} {N : Int} (hN : N ≤ 40) (rin : ∀ i, 0 ≤ i → i < N → 0 ≤ row i ∧ row i < 100) (rlt : ∀ i j, 0 ≤ i → i < j → j < N → row i < row j) :
    ∀ (m : Nat) (Q : List Sg) (S : SX6) (L R U H : Int → Int) (r c : Int) (n : Nat) (i : Int), ar S t L R U H r c → (∀ j, 0 ≤ j → j < N → rd (gX6_row S) j = row j) → qs S i Q → tot Q = m → 0 ≤ i → i + m ≤ 40 →
      (∀ s ∈ Q, 0 ≤ s.1 ∧ s.1 ≤ s.2.1 ∧ s.2.1 < N ∧ -1 ≤ s.2.2 ∧ s.2.2 < 100) → Q.Pairwise dj → m < n →
      ∃ S' L' R' U', fX6_build_L88 (ii t) n (ii (i + Q.length)) (ii i) S = some S' ∧ lo t S S' ∧ ar S' t L' R' U' H r c ∧ (∀ s ∈ Q, rp L' R' (fl row s.1 s.2.1) ∧ ra U' s.2.2 (fl row s.1 s.2.1)) ∧ (∀ k, (∀ s ∈ Q, ∀ j, s.1 ≤ j → j ≤ s.2.1 → row j ≠ k) → L' k = L k ∧ R' k = R k ∧ U' k = U k)
  | m, [], S, L, R, U, H, r, c, n, i, ha, hrow, hq, htot, i0, i1, hs, hd, hn => by
    obtain ⟨n, rfl⟩ : ∃ m, n = m + 1 := ⟨n - 1, by omega⟩
    refine ⟨S, L, R, U, ?_, lo_refl t S, ha, (fun s hs => by cases hs), (fun _ _ => ⟨rfl, rfl, rfl⟩)⟩
    unfold fX6_build_L88
    rw [List.length_nil, if_pos ((ii_le (by omega) (by omega) (by omega) (by omega)).mpr (by omega))]
  | 0, (lo', hi, on) :: Q, S, L, R, U, H, r, c, n, i, ha, hrow, hq, htot, i0, i1, hs, hd, hn => by
    exfalso
    have := tot_len _ (fun d hd => (hs d hd).2.1)
    rw [htot, List.length_cons] at this
    omega
  | m + 1, (lo', hi, on) :: Q, S, L, R, U, H, r, c, n, i, ha, hrow, hq, htot, i0, i1, hs, hd, hn => by
    obtain ⟨n, rfl⟩ : ∃ m, n = m + 1 := ⟨n - 1, by omega⟩
    obtain ⟨b1, b2, b3, b4, b5⟩ := hs (lo', hi, on) (by simp)
    simp only [] at b1 b2 b3 b4 b5
    have hsQ : ∀ s ∈ Q, 0 ≤ s.1 ∧ s.1 ≤ s.2.1 ∧ s.2.1 < N ∧ -1 ≤ s.2.2 ∧ s.2.2 < 100 := fun s h => hs s (by simp [h])
    have tl := tot_len Q (fun d hd => (hsQ d hd).2.1)
    have htot' : (hi - lo' + 1) + tot Q = ((m + 1 : Nat) : Int) := htot
    obtain ⟨hd1, hd2⟩ := List.pairwise_cons.mp hd
    obtain ⟨q1, q2, q3⟩ := qs_head hq
    simp only [] at q1 q2 q3
    obtain ⟨mid, hm⟩ : ∃ mid, mid = (lo' + hi) / 2 := ⟨_, rfl⟩
    obtain ⟨x, hx⟩ : ∃ x, x = row mid := ⟨_, rfl⟩
    have x0 := rin mid (by omega) (by omega)
    rw [← hx] at x0
    have rinj : ∀ i j, 0 ≤ i → i < N → 0 ≤ j → j < N → row i = row j → i = j := fun i j a b c d e => by
      rcases Int.lt_trichotomy i j with z | z | z
      · have := rlt i j a z d; omega
      · exact z
      · have := rlt j i c z b; omega
    -- the links of this one
    obtain ⟨lv, hlv⟩ : ∃ lv, lv = if lo' < mid then row ((lo' + mid - 1) / 2) else -1 := ⟨_, rfl⟩
    obtain ⟨rv, hrv⟩ : ∃ rv, rv = if mid < hi then row ((mid + 1 + hi) / 2) else -1 := ⟨_, rfl⟩
    have lv0 : -1 ≤ lv ∧ lv < 100 := by
      rw [hlv]
      by_cases e : lo' < mid
      · rw [if_pos e]; have := rin ((lo' + mid - 1) / 2) (by omega) (by omega); omega
      · rw [if_neg e]; omega
    have rv0 : -1 ≤ rv ∧ rv < 100 := by
      rw [hrv]
      by_cases e : mid < hi
      · rw [if_pos e]; have := rin ((mid + 1 + hi) / 2) (by omega) (by omega); omega
      · rw [if_neg e]; omega
    obtain ⟨S1, hS1⟩ : ∃ S1, S1 = sX6_above S (upd (gX6_above S) (ii (100 * t + x)).toNatClampNeg (ii on)) := ⟨_, rfl⟩
    obtain ⟨S2, hS2⟩ : ∃ S2, S2 = sX6_left S1 (upd (gX6_left S1) (ii (100 * t + x)).toNatClampNeg (ii lv)) := ⟨_, rfl⟩
    obtain ⟨S3, hS3⟩ : ∃ S3, S3 = sX6_right S2 (upd (gX6_right S2) (ii (100 * t + x)).toNatClampNeg (ii rv)) := ⟨_, rfl⟩
    have a3 : ar S3 t (fu L x lv) (fu R x rv) (fu U x on) H r c := by
      rw [hS3]
      refine w_r ?_ ht x0.1 x0.2 rv0.1 rv0.2
      rw [hS2]
      refine w_l ?_ ht x0.1 x0.2 lv0.1 lv0.2
      rw [hS1]
      exact w_u ha ht x0.1 x0.2 b4 b5
    have lo3 : lo t S S3 := by
      refine lo_trans (B := S2) (lo_trans (B := S1) ?_ ?_) ?_
      · rw [hS1]; exact l_u S x0.1 x0.2 b4 b5
      · rw [hS2]; exact l_l S1 x0.1 x0.2 lv0.1 lv0.2
      · rw [hS3]; exact l_r S2 x0.1 x0.2 rv0.1 rv0.2
    have row1 : gX6_row S1 = gX6_row S := by rw [hS1]; rfl
    have row2 : gX6_row S2 = gX6_row S := by rw [hS2]; exact row1
    have row3 : gX6_row S3 = gX6_row S := by rw [hS3]; exact row2
    have qs3 : qs S3 (i + 1) Q := by
      have e : gX6_spanLow S3 = gX6_spanLow S ∧ gX6_spanHigh S3 = gX6_spanHigh S ∧ gX6_spanOn S3 = gX6_spanOn S := by rw [hS3, hS2, hS1]; exact ⟨rfl, rfl, rfl⟩
      intro j hj
      rw [e.1, e.2.1, e.2.2]
      exact qs_tail hq j hj
    have iQ : i + (((lo', hi, on) :: Q).length : Int) = i + 1 + Q.length := by rw [List.length_cons]; omega
    obtain ⟨S4, p1, p2', p3, p4, p5⟩ := psh_eq (p := mid) (q := lo') (u := lo') (w := mid - 1) (x := x) qs3 (by omega) (by omega) (by omega) (by omega) (by omega) (by omega) (by omega) (by omega) a3
    obtain ⟨Q1, hQ1⟩ : ∃ Q1, Q1 = Q ++ (if lo' < mid then [(lo', mid - 1, x)] else []) := ⟨_, rfl⟩
    rw [← hQ1] at p1 p2'
    have lQ1 : (Q1.length : Int) = Q.length + if lo' < mid then 1 else 0 := by
      rw [hQ1, List.length_append]
      by_cases e : lo' < mid
      · rw [if_pos e, if_pos e]; rfl
      · rw [if_neg e, if_neg e]; rfl
    obtain ⟨S5, r1, r2, r3, r4, r5⟩ := psh_eq (p := hi) (q := mid) (u := mid + 1) (w := hi) (x := x) p2' (by omega) (by split at lQ1 <;> omega) (by split at lQ1 <;> omega) (by omega) (by omega) (by omega) (by omega) (by omega) p3
    obtain ⟨Q2, hQ2⟩ : ∃ Q2, Q2 = Q1 ++ (if mid < hi then [(mid + 1, hi, x)] else []) := ⟨_, rfl⟩
    rw [← hQ2] at r1 r2
    have mQ2 : ∀ s, s ∈ Q2 ↔ s ∈ Q ∨ (lo' < mid ∧ s = (lo', mid - 1, x)) ∨ (mid < hi ∧ s = (mid + 1, hi, x)) := fun s => by
      rw [hQ2, hQ1, List.mem_append, List.mem_append]
      by_cases e : lo' < mid <;> by_cases g : mid < hi <;> simp [e, g, or_assoc]
    have tQ2 : tot Q2 = (m : Int) := by
      have t1 : tot Q1 = tot Q + (mid - lo') := by
        rw [hQ1, tot_app]
        by_cases e : lo' < mid
        · rw [if_pos e]; show tot Q + ((mid - 1 - lo' + 1) + 0) = _; omega
        · rw [if_neg e]; show tot Q + 0 = _; omega
      have t2 : tot Q2 = tot Q1 + (hi - mid) := by
        rw [hQ2, tot_app]
        by_cases e : mid < hi
        · rw [if_pos e]; show tot Q1 + ((hi - (mid + 1) + 1) + 0) = _; omega
        · rw [if_neg e]; show tot Q1 + 0 = _; omega
      omega
    have djQ : ∀ s ∈ Q, s.2.1 < lo' ∨ hi < s.1 := fun s h => by
      rcases hd1 s h with z | z
      · exact Or.inr z
      · exact Or.inl z
    have pQ2 : Q2.Pairwise dj := by
      rw [hQ2, hQ1, List.append_assoc, List.pairwise_append]
      refine ⟨hd2, ?_, fun a ha b hb => ?_⟩
      · by_cases e : lo' < mid
        · rw [if_pos e]
          by_cases g : mid < hi
          · rw [if_pos g]
            refine List.pairwise_cons.mpr ⟨fun b hb => ?_, List.pairwise_singleton _ _⟩
            have hb' : b = (mid + 1, hi, x) := by simpa using hb
            rw [hb']
            left
            show mid - 1 < mid + 1
            omega
          · rw [if_neg g]; exact List.pairwise_singleton _ _
        · rw [if_neg e]
          by_cases g : mid < hi
          · rw [if_pos g]; exact List.pairwise_singleton _ _
          · rw [if_neg g]; exact List.Pairwise.nil
      · have z := djQ a ha
        rcases List.mem_append.mp hb with y | y
        · by_cases e : lo' < mid
          · rw [if_pos e, List.mem_singleton] at y
            rw [y]
            rcases z with z | z
            · left; exact z
            · right; show mid - 1 < a.1; omega
          · rw [if_neg e] at y; cases y
        · by_cases e : mid < hi
          · rw [if_pos e, List.mem_singleton] at y
            rw [y]
            rcases z with z | z
            · left; show a.2.1 < mid + 1; omega
            · right; exact z
          · rw [if_neg e] at y; cases y
    have sQ2 : ∀ s ∈ Q2, 0 ≤ s.1 ∧ s.1 ≤ s.2.1 ∧ s.2.1 < N ∧ -1 ≤ s.2.2 ∧ s.2.2 < 100 := fun s h => by
      rcases (mQ2 s).mp h with z | ⟨z, y⟩ | ⟨z, y⟩
      · exact hsQ s z
      · rw [y]
        show 0 ≤ lo' ∧ lo' ≤ mid - 1 ∧ mid - 1 < N ∧ -1 ≤ x ∧ x < 100
        omega
      · rw [y]
        show 0 ≤ mid + 1 ∧ mid + 1 ≤ hi ∧ hi < N ∧ -1 ≤ x ∧ x < 100
        omega
    obtain ⟨S', L', R', U', f1, f2, f3, f4, f5⟩ := build_L ht hN rin rlt m Q2 S5 _ _ _ H r c n (i + 1) r3 (fun j j0 j1 => by rw [r5, p5, row3]; exact hrow j j0 j1) r2 tQ2 (by omega) (by omega) sQ2 pQ2 (by omega)
    refine ⟨S', L', R', U', ?_, lo_trans lo3 (lo_trans p4 (lo_trans r4 f2)), f3, ?_, ?_⟩
    · unfold fX6_build_L88
      have gi := ii_in (k := i) (n := 41) i0 (by omega) (by omega)
      rw [iQ]
      simp (disch := omega) only [ii_le]
      rw [if_neg (by omega), cv_gd_pos gi, cv_lt_eq, cv_gd_pos gi, cv_lt_eq, qX6_spanLow S i0 (by omega), q1, qX6_spanHigh S i0 (by omega), q2]
      simp only [ii_l0, ii_l1, ii_l2, ii_l40, ii_l100, ii_neg]
      rw [ii_add, ii_div (by omega) (by omega) (by omega) (by omega), ← hm, cv_lt_eq, cv_gd_pos (ii_in (by omega) (by omega) (by omega)), cv_lt_eq, qX6_row S (by omega) (by omega), hrow mid (by omega) (by omega), ← hx, cv_gd_pos gi]
      simp only [ix]
      have gx := ig ht x0.1 x0.2
      rw [cv_gd_pos gx, cv_lt_eq, qX6_spanOn S i0 (by omega), q3, ← hS1]
      rw [cv_bd_eq (a := ii lv) (by
        simp (disch := omega) only [ii_le, ii_add, ii_sub]
        rw [hlv]
        by_cases e : lo' < mid
        · rw [if_neg (by omega), if_pos e, ii_div (by omega) (by omega) (by omega) (by omega), cv_gd_pos (ii_in (by omega) (by omega) (by omega)), row1, qX6_row S (by omega) (by omega), hrow _ (by omega) (by omega)]
        · rw [if_pos (by omega), if_neg e])]
      rw [cv_gd_pos gx, cv_lt_eq, ← hS2]
      rw [cv_bd_eq (a := ii rv) (by
        simp (disch := omega) only [ii_le, ii_add, ii_sub]
        rw [hrv]
        by_cases e : mid < hi
        · rw [if_neg (by omega), if_pos e, ii_div (by omega) (by omega) (by omega) (by omega), cv_gd_pos (ii_in (by omega) (by omega) (by omega)), row2, qX6_row S (by omega) (by omega), hrow _ (by omega) (by omega)]
        · rw [if_pos (by omega), if_neg e])]
      rw [cv_gd_pos gx, cv_lt_eq, ← hS3, ii_sub mid 1, ii_add mid 1, ii_add i 1]
      refine (cv_bd_eq (a := (ii (i + 1 + Q1.length), S4)) p1 _).trans ?_
      refine (cv_bd_eq (a := (ii (i + 1 + Q2.length), S5)) r1 _).trans ?_
      exact f1
    · intro s hs'
      rcases List.mem_cons.mp hs' with z | z
      · rw [z]
        simp only []
        have fx := f5 x (fun s h j j0 j1 e => by
          have := sQ2 s h
          have e2 := rinj j mid (by omega) (by omega) (by omega) (by omega) (by rw [e, hx])
          rcases (mQ2 s).mp h with y | ⟨_, y⟩ | ⟨_, y⟩
          · have := djQ s y; omega
          · rw [y] at j1; simp only [] at j1; omega
          · rw [y] at j0; simp only [] at j0; omega)
        rw [fu_p _ rfl, fu_p _ rfl, fu_p _ rfl] at fx
        have ll : lo' ≤ mid - 1 → rp L' R' (fl row lo' (mid - 1)) ∧ ra U' x (fl row lo' (mid - 1)) := fun e => f4 (lo', mid - 1, x) ((mQ2 _).mpr (Or.inr (Or.inl ⟨by omega, rfl⟩)))
        have rr : mid + 1 ≤ hi → rp L' R' (fl row (mid + 1) hi) ∧ ra U' x (fl row (mid + 1) hi) := fun e => f4 (mid + 1, hi, x) ((mQ2 _).mpr (Or.inr (Or.inr ⟨by omega, rfl⟩)))
        have ll' : rp L' R' (fl row lo' (mid - 1)) ∧ ra U' x (fl row lo' (mid - 1)) := by
          by_cases e : lo' ≤ mid - 1
          · exact ll e
          · rw [fl_no row (by omega)]; exact ⟨trivial, trivial⟩
        have rr' : rp L' R' (fl row (mid + 1) hi) ∧ ra U' x (fl row (mid + 1) hi) := by
          by_cases e : mid + 1 ≤ hi
          · exact rr e
          · rw [fl_no row (by omega)]; exact ⟨trivial, trivial⟩
        rw [fl_nd row b2 (by omega), ← hm, ← hx]
        refine ⟨rp_nd.mpr ⟨?_, ?_, ll'.1, rr'.1⟩, ra_nd.mpr ⟨fx.2.2, ll'.2, rr'.2⟩⟩
        · rw [fx.1, hlv, fl_rt row (by omega)]
          by_cases e : lo' < mid
          · rw [if_pos e, if_neg (by omega)]; congr 2; omega
          · rw [if_neg e, if_pos (by omega)]
        · rw [fx.2.1, hrv, fl_rt row (by omega)]
          by_cases e : mid < hi
          · rw [if_pos e, if_neg (by omega)]
          · rw [if_neg e, if_pos (by omega)]
      · exact f4 s ((mQ2 s).mpr (Or.inl z))
    · intro k hk
      have kx : ¬ k = x := fun z => hk (lo', hi, on) (by simp) mid (by show lo' ≤ mid; omega) (by show mid ≤ hi; omega) (by rw [z, hx])
      have := f5 k (fun s h j j0 j1 => by
        rcases (mQ2 s).mp h with y | ⟨y1, y⟩ | ⟨y1, y⟩
        · exact hk s (by simp [y]) j j0 j1
        · rw [y] at j0 j1
          simp only [] at j0 j1
          exact hk (lo', hi, on) (by simp) j (by show lo' ≤ j; omega) (by show j ≤ hi; omega)
        · rw [y] at j0 j1
          simp only [] at j0 j1
          exact hk (lo', hi, on) (by simp) j (by show lo' ≤ j; omega) (by show j ≤ hi; omega))
      rw [fu_n _ kx, fu_n _ kx, fu_n _ kx] at this
      exact this
