/-! the class's tree: a part is built anew -/
/-- the keys between which a part lies, by the ones above it -/
def bnd (x : Int) (p : Int × Int) (y : Int) : Int × Int := if y < x then (y, p.2) else (p.1, y)
theorem bnd_wy (x : Int) : ∀ t : Tr, tr_wf t → ∀ lo hi : Int, bst lo hi t → x ∈ ks t → ∀ xs, wy x t = xs ++ [x] → xs.foldl (bnd x) (lo, hi) = (il x lo t, ih_ x hi t) := tr_ind (fun _ _ _ h => by rw [ks_lf] at h; cases h) (fun y l r w1 w2 h1 h2 lo hi hb hx xs e => by
  obtain ⟨a1, a2, a3, a4⟩ := bst_nd.mp hb
  rw [wy_nd] at e
  rw [il_nd, ih_nd]
  by_cases c : x = y
  · rw [if_pos c] at e
    rw [if_pos c, if_pos c]
    cases xs with
    | nil => rfl
    | cons a b => simp at e
  · rw [if_neg c] at e
    rw [if_neg c, if_neg c]
    cases xs with
    | nil => simp at e; exact absurd e.1.symm c
    | cons a b =>
      rw [List.cons_append] at e
      obtain ⟨e1, e2⟩ := List.cons.inj e
      subst e1
      rw [List.foldl_cons]
      rcases side (t := lf) w1 w2 hb hx c with ⟨g, q⟩ | ⟨g, q⟩
      · rw [if_pos g] at e2
        rw [if_pos g, if_pos g, show bnd x (lo, hi) y = (lo, y) by unfold bnd; rw [if_neg (by omega)]]
        exact h1 lo y a3 q b e2
      · rw [if_neg g] at e2
        rw [if_neg g, if_neg g, show bnd x (lo, hi) y = (y, hi) by unfold bnd; rw [if_pos (by omega)]]
        exact h2 y hi a4 q b e2)
theorem gather_L8 {x : Int} {T : SX4} {m : Int} (hx : rd (gX4_way T) m = x) (hm : 0 ≤ m ∧ m < 40) (hx1 : 0 ≤ x ∧ x < 100) : ∀ (ys : List Int) (i : Int) (n : Nat) (a b : Int), 0 ≤ i → i + ys.length = m → (∀ j : Nat, j < ys.length → rd (gX4_way T) (i + j) = ys.getD j 0) → (∀ y ∈ ys, 0 ≤ y ∧ y < 100 ∧ y ≠ x) → ys.length < n →
    fX4_gather_L8 T (ii m) n (ii a) (ii b) (ii i) = some (ii (ys.foldl (bnd x) (a, b)).1, ii (ys.foldl (bnd x) (a, b)).2)
  | [], i, n, a, b, h1, h2, _, _, hn => by
    obtain ⟨n, rfl⟩ : ∃ m, n = m + 1 := ⟨n - 1, by omega⟩
    rw [List.length_nil] at h2
    unfold fX4_gather_L8
    rw [if_pos ((ii_le (by omega) (by omega) (by omega) (by omega)).mpr (by omega))]
    rfl
  | y :: ys, i, n, a, b, h1, h2, hw, hy, hn => by
    rw [List.length_cons] at h2 hn
    obtain ⟨n, rfl⟩ : ∃ m, n = m + 1 := ⟨n - 1, by omega⟩
    have y0 := hy y (by simp)
    have e0 : rd (gX4_way T) i = y := by
      have := hw 0 (by simp)
      simpa using this
    unfold fX4_gather_L8
    simp (disch := omega) only [ii_l0, ii_l1, ii_l2, ii_l40, ii_l100, ii_neg, ii_le, cv_lt_eq, qX4_way, e0, hx]
    have g1 := ii_in (k := i) (n := 40) (by omega) (by omega) (by omega)
    rw [if_neg (by omega), cv_gd_pos g1, cv_gd_pos (ii_in hm.1 hm.2 (by omega)), cv_gd_pos g1, cv_gd_pos g1, ii_add, List.foldl_cons]
    have ihs := gather_L8 hx hm hx1 ys (i + 1) n (bnd x (a, b) y).1 (bnd x (a, b) y).2 (by omega) (by omega) (fun j hj => by
      have := hw (j + 1) (by rw [List.length_cons]; omega)
      rw [show i + 1 + (j : Int) = i + ((j + 1 : Nat) : Int) by omega, this]
      simp) (fun z hz => hy z (by simp [hz])) (by omega)
    unfold bnd at ihs ⊢
    by_cases c : y < x
    · rw [if_neg (by omega), cv_bd_some]
      simp only [if_pos c] at ihs ⊢
      exact ihs
    · rw [if_pos (by omega), cv_bd_some]
      simp only [if_neg c] at ihs ⊢
      exact ihs
/-- the keys that are there, laid in the row -/
theorem gather_L63 {hi : Int} (hh : hi ≤ 100) {P : Int → Bool} : ∀ (m n : Nat) (c s : Int) (T : SX4), 0 ≤ c → c + m = hi → 0 ≤ s → s + (fil P c m).length ≤ 40 → (∀ k, c ≤ k → k < hi → (P k = true ↔ 0 < rd (gX4_sizes T) k)) → m < n →
    fX4_gather_L63 (ii hi) n (ii s) (ii c) T = some (ii (s + (fil P c m).length), sX4_row T (wrt (gX4_row T) s (fil P c m)))
  | 0, n, c, s, T, h1, h2, h3, h4, h5, hn => by
    obtain ⟨n, rfl⟩ : ∃ m, n = m + 1 := ⟨n - 1, by omega⟩
    unfold fX4_gather_L63
    rw [if_pos ((ii_le (by omega) (by omega) (by omega) (by omega)).mpr (by omega)), fil_0, wrt_nil]
    simp
    rfl
  | m + 1, n, c, s, T, h1, h2, h3, h4, h5, hn => by
    obtain ⟨n, rfl⟩ : ∃ m, n = m + 1 := ⟨n - 1, by omega⟩
    have q1 := rd_lo (gX4_sizes T) c
    have q2 := rd_hi (gX4_sizes T) c
    have hc := h5 c (by omega) (by omega)
    have hle : (fil P c (m + 1)).length ≤ m + 1 := by
      have : ∀ (m : Nat) (c : Int), (fil P c m).length ≤ m := by
        intro m
        induction m with
        | zero => intro c; rw [fil_0]; simp
        | succ m ih =>
          intro c
          have := ih (c + 1)
          rw [fil_s]
          split
          · rw [List.length_cons]; omega
          · omega
      exact this _ _
    rw [fil_s] at h4 ⊢
    unfold fX4_gather_L63
    simp (disch := omega) only [ii_l0, ii_l1, ii_l2, ii_l40, ii_l100, ii_neg, ii_le, cv_lt_eq, qX4_sizes]
    rw [if_neg (by omega)]
    by_cases p : P c = true
    · rw [if_pos p, List.length_cons] at h4
      have := hc.mp p
      rw [if_pos p, if_neg (by omega), cv_gd_pos (ii_in h1 (by omega) (by omega)), if_neg (by omega), cv_gd_pos (ii_in h3 (by omega) (by omega)), cv_bd_some, ii_add, ii_add, wrt_cons, List.length_cons]
      refine (gather_L63 hh m n (c + 1) (s + 1) (sX4_row T (upd (gX4_row T) (ii s).toNatClampNeg (ii c))) (by omega) (by omega) (by omega) (by omega) (fun k g1 g2 => h5 k (by omega) g2) (by omega)).trans ?_
      rw [show s + ((fil P (c + 1) m).length + 1 : Nat) = s + 1 + (fil P (c + 1) m).length by omega]
      rfl
    · rw [if_neg p] at h4
      have hz : ¬ 0 < rd (gX4_sizes T) c := fun z => p (hc.mpr z)
      rw [if_neg p]
      by_cases f : 40 ≤ s
      · rw [if_pos f]
        have : fil P (c + 1) m = [] := by
          cases e : fil P (c + 1) m with
          | nil => rfl
          | cons a b => rw [e, List.length_cons] at h4; omega
        rw [this, wrt_nil]
        simp
        rfl
      · rw [if_neg f, cv_gd_pos (ii_in h1 (by omega) (by omega)), if_pos (by omega), cv_bd_some, ii_add]
        exact gather_L63 hh m n (c + 1) s T (by omega) (by omega) h3 h4 (fun k g1 g2 => h5 k (by omega) g2) (by omega)
theorem ks_len {t : Tr} (w : tr_wf t) : ((ks t).length : Int) = sz t := (sz_ks t w).symm
/-- the part at a place of the way: its keys are in the row -/
theorem gather_eq {T : SX4} {t : Tr} (h : ct T t) {x : Int} (hx : x ∈ ks t) {xs : List Int} (he : wy x t = xs ++ [x]) (hw : ∀ j : Nat, j < xs.length + 1 → rd (gX4_way T) j = (xs ++ [x]).getD j 0) :
    fX4_gather T (ii xs.length) = some (ii (sz (at_ x t)), sX4_row T (wrt (gX4_row T) 0 (ks (at_ x t)))) := by
  obtain ⟨w, hb, hz, -, -, hs, -⟩ := h
  have hl := wy_len t w x
  rw [he, List.length_append, List.length_singleton] at hl
  obtain ⟨c1, c2, c3, c4, c5, c6⟩ := at_iv x t w (-1) 100 hb hx
  have hnd := wy_nodup t w _ _ x hb
  have x0 := bst_mem t w _ _ hb x hx
  unfold fX4_gather
  have e1 : rd (gX4_way T) xs.length = x := by rw [hw xs.length (by omega)]; simp
  have L8 := gather_L8 (T := T) (x := x) (m := xs.length) e1 (by omega) (by omega) xs 0 256 (-1) 100 (by omega) (by omega) (fun j hj => by
    have := hw j (by omega)
    rw [show (0 : Int) + (j : Int) = j by omega, this]
    simp [List.getD_eq_getElem?_getD, List.getElem?_append_left hj]) (fun y hy => by
      have q := bst_mem t w _ _ hb y (wy_sub t w x y (by rw [he]; simp [hy]))
      refine ⟨by omega, by omega, fun z => ?_⟩
      rw [he] at hnd
      have := (List.nodup_append.mp hnd).2.2 y hy x (by simp)
      exact this z) (by omega)
  rw [bnd_wy x t w (-1) 100 hb hx xs he] at L8
  simp only [ii_l0, ii_l1, ii_l2, ii_l40, ii_l100, ii_neg] at L8 ⊢
  rw [cv_bd_eq L8, cv_lt_eq]
  simp only [ii_add]
  have wa := at_wf x t w
  have f1 : fil (fun k => decide (0 < rd (gX4_sizes T) k)) (il x (-1) t + 1) (ih_ x 100 t - il x (-1) t - 1).toNat = ks (at_ x t) := fil_ks (at_ x t) wa _ _ (by omega) c1 (fun k g1 g2 => by
    rw [decide_eq_true_iff, hs k (by omega) (by omega), ← c6 k g1 g2]
    exact at_pos w hb)
  have ha := at_le x t w
  have L63 := gather_L63 (hi := ih_ x 100 t) (by omega) (P := fun k => decide (0 < rd (gX4_sizes T) k)) (ih_ x 100 t - il x (-1) t - 1).toNat 256 (il x (-1) t + 1) 0 T (by omega) (by omega) (by omega) (by rw [f1, Int.zero_add, ks_len wa]; omega) (fun k _ _ => by rw [decide_eq_true_iff]) (by omega)
  rw [f1, Int.zero_add, ks_len wa] at L63
  rw [cv_bd_eq L63]
