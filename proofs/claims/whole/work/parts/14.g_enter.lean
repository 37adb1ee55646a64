/-! the reference's trees: ENTER, on the way back -/
theorem ch_get (U : Int → Int) : ∀ (xs : List Int) (q : Int), ch U q xs → ∀ p : Nat, p < xs.length → U (xs.getD p 0) = if p = 0 then q else xs.getD (p - 1) 0
  | [], _, _, p, h => by simp at h
  | x :: xs, q, hc, 0, _ => by rw [if_pos rfl, List.getD_cons_zero]; exact hc.1
  | x :: xs, q, hc, p + 1, h => by
    rw [List.length_cons] at h
    rw [if_neg (by omega), List.getD_cons_succ, ch_get U xs x hc.2 p (by omega)]
    cases p with
    | zero => rw [if_pos rfl]; rfl
    | succ p => rw [if_neg (by omega), show p + 1 + 1 - 1 = (p + 1 - 1) + 1 by omega, List.getD_cons_succ]
theorem way_step (k : Int) : ∀ v : Tr, tr_wf v → ∀ lo hi : Int, bst lo hi v → ∀ j : Nat, j + 1 < (wy k v).length → ∃ l r, at_ ((wy k v).getD j 0) v = nd ((wy k v).getD j 0) l r ∧ tr_wf l ∧ tr_wf r ∧ (at_ ((wy k v).getD (j + 1) 0) v = l ∨ at_ ((wy k v).getD (j + 1) 0) v = r) := tr_ind (fun _ _ _ j h => by rw [wy_lf] at h; simp at h) (fun x l r w1 w2 h1 h2 lo hi hb j hj => by
  obtain ⟨a1, a2, a3, a4⟩ := bst_nd.mp hb
  rw [wy_nd] at hj ⊢
  rw [List.length_cons] at hj
  by_cases e : k = x
  · rw [if_pos e] at hj; simp at hj
  · rw [if_neg e] at hj ⊢
    have self : ∀ u : Tr, tr_wf u → 0 < (wy k u).length → u ≠ lf ∧ (wy k u).getD 0 0 = rt u ∧ at_ (rt u) u = u := fun u wu hu => by
      rcases tr_cases wu with z | ⟨y, a, b, z, _, _⟩
      · rw [z, wy_lf] at hu; simp at hu
      · rw [z, wy_nd, List.getD_cons_zero, rt_nd, at_nd, if_pos rfl]
        exact ⟨(fun h => by cases h), rfl, rfl⟩
    by_cases g : k < x
    · rw [if_pos g] at hj ⊢
      cases j with
      | zero =>
        obtain ⟨n1, n2, n3⟩ := self l w1 (by omega)
        have q := bst_mem l w1 lo x a3 _ (rt_mem w1 n1)
        refine ⟨l, r, by rw [List.getD_cons_zero, at_nd, if_pos rfl], w1, w2, Or.inl ?_⟩
        rw [List.getD_cons_succ, n2, at_nd, if_neg (by omega), if_pos q.2, n3]
      | succ j =>
        rw [List.getD_cons_succ, List.getD_cons_succ]
        obtain ⟨l', r', c1, c2, c3, c4⟩ := h1 lo x a3 j (by omega)
        have q1 := bst_mem l w1 lo x a3 _ (wy_sub l w1 k _ (getD_mem (xs := wy k l) (p := j) (by omega)))
        have q2 := bst_mem l w1 lo x a3 _ (wy_sub l w1 k _ (getD_mem (xs := wy k l) (p := j + 1) (by omega)))
        refine ⟨l', r', ?_, c2, c3, ?_⟩
        · rw [at_nd, if_neg (by omega), if_pos q1.2, c1]
        · rw [at_nd, if_neg (by omega), if_pos q2.2]; exact c4
    · rw [if_neg g] at hj ⊢
      cases j with
      | zero =>
        obtain ⟨n1, n2, n3⟩ := self r w2 (by omega)
        have q := bst_mem r w2 x hi a4 _ (rt_mem w2 n1)
        refine ⟨l, r, by rw [List.getD_cons_zero, at_nd, if_pos rfl], w1, w2, Or.inr ?_⟩
        rw [List.getD_cons_succ, n2, at_nd, if_neg (by omega), if_neg (by omega), n3]
      | succ j =>
        rw [List.getD_cons_succ, List.getD_cons_succ]
        obtain ⟨l', r', c1, c2, c3, c4⟩ := h2 x hi a4 j (by omega)
        have q1 := bst_mem r w2 x hi a4 _ (wy_sub r w2 k _ (getD_mem (xs := wy k r) (p := j) (by omega)))
        have q2 := bst_mem r w2 x hi a4 _ (wy_sub r w2 k _ (getD_mem (xs := wy k r) (p := j + 1) (by omega)))
        refine ⟨l', r', ?_, c2, c3, ?_⟩
        · rw [at_nd, if_neg (by omega), if_neg (by omega), c1]
        · rw [at_nd, if_neg (by omega), if_neg (by omega)]; exact c4)
/-- too much on one side, as on the way down -/
theorem lop_hc {S : SX6} {t : Int} {v : Tr} {k : Int} (h : rc S t (ins k v)) (ht : t = 0 ∨ t = 1) {a b : Int} (hab : ab S t a b) (hr : rat a b) (w : tr_wf v) (hb : bst (-1) 100 v) (hk : k ∉ ks v) {j : Nat} (hj : j < (wy k v).length) :
    fX6_isLopsided S (ii t) (ii ((wy k v).getD j 0)) = some (if hc a b v (wy k v) j = true then ii 1 else ii 0) := by
  have ew := ins_wy k v w hk
  have hg : ∀ i : Nat, i < (wy k v).length → (wy k (ins k v)).getD i 0 = (wy k v).getD i 0 := fun i hi => by rw [ew, List.getD_eq_getElem?_getD, List.getElem?_append_left hi, ← List.getD_eq_getElem?_getD]
  have hgl : (wy k (ins k v)).getD (wy k v).length 0 = k := by rw [ew]; simp
  obtain ⟨l, r, c1, c2, c3, c4⟩ := way_step k (ins k v) h.1 _ _ h.2.1 j (by rw [ew, List.length_append, List.length_singleton]; omega)
  rw [hg j hj] at c1
  have hm := getD_mem hj
  have hx : (wy k v).getD j 0 ∈ ks v := wy_sub v w k _ hm
  have hxk : ∀ i : Nat, i < (wy k v).length → (wy k v).getD i 0 ≠ k := fun i hi z => hk (by rw [← z]; exact wy_sub v w k _ (getD_mem hi))
  rw [lop6 h ht hab hr ((ins_ks k _ v w).mpr (Or.inr hx)) c1 c2 c3]
  have slj : ∀ i : Nat, i ≤ (wy k v).length → sl v (wy k v) i = sz (at_ ((wy k (ins k v)).getD i 0) (ins k v)) := fun i hi => by
    unfold sl
    by_cases z : i < (wy k v).length
    · rw [if_pos z, hg i z, ins_at k _ v w _ _ hb hk, if_neg (hxk i z), if_pos (getD_mem z)]
    · rw [if_neg z, show i = (wy k v).length by omega, hgl, ins_at k _ v w _ _ hb hk, if_pos rfl]
  have s1 := slj j (by omega)
  have s2 := slj (j + 1) (by omega)
  rw [hg j hj, c1, sz_nd] at s1
  have key : (sl v (wy k v) (j + 1) = sz l ∨ sl v (wy k v) (j + 1) = sz r) := by
    rcases c4 with z | z
    · left; rw [s2, z]
    · right; rw [s2, z]
  have e1 : max (sl v (wy k v) (j + 1)) (sl v (wy k v) j - 1 - sl v (wy k v) (j + 1)) = max (sz l) (sz r) := by
    rcases key with z | z <;> rw [z, s1] <;> omega
  unfold hc
  rw [e1, s1]
  by_cases z : a * (sz l + sz r + 1) < b * max (sz l) (sz r)
  · rw [if_pos z, if_pos (decide_eq_true z)]
  · rw [if_neg z, if_neg (fun y => z (of_decide_eq_true y))]
theorem enter_L {S : SX6} {t : Int} {v : Tr} {k : Int} (h : rc S t (ins k v)) (ht : t = 0 ∨ t = 1) {a b : Int} (hab : ab S t a b) (hr : rat a b) (w : tr_wf v) (hb : bst (-1) 100 v) (hk : k ∉ ks v) : ∀ (p n : Nat), p ≤ (wy k v).length → p < n →
    fX6_enter_L49 S (ii t) n (ii (if p = 0 then -1 else (wy k v).getD (p - 1) 0)) = some (ii (if tp (hc a b v (wy k v)) p = -1 then -1 else (wy k v).getD (tp (hc a b v (wy k v)) p).toNat 0))
  | 0, n, _, hn => by
    obtain ⟨n, rfl⟩ : ∃ m, n = m + 1 := ⟨n - 1, by omega⟩
    unfold fX6_enter_L49
    rw [if_pos rfl, ii_lm, if_pos rfl, if_pos (show tp (hc a b v (wy k v)) 0 = -1 from rfl)]
  | p + 1, n, hp, hn => by
    obtain ⟨n, rfl⟩ : ∃ m, n = m + 1 := ⟨n - 1, by omega⟩
    have h' := h
    obtain ⟨w', hb', hz, L, R, U, H, ha, hrp, hu, hh⟩ := h
    have hx : (wy k v).getD p 0 ∈ ks v := wy_sub v w k _ (getD_mem (by omega))
    have x0 := bst_mem v w _ _ hb _ hx
    rw [if_neg (by omega), show p + 1 - 1 = p by omega, tp_s]
    unfold fX6_enter_L49
    simp only [ii_l0, ii_l1, ii_l2, ii_l40, ii_l100, ii_neg, ix, cv_lt_eq]
    rw [if_neg (i_ne (by omega) (by omega) (by omega) (by omega) (by omega)), cv_bd_eq (lop_hc h' ht hab hr w hb hk (j := p) (by omega))]
    by_cases z : hc a b v (wy k v) p = true
    · rw [if_pos z, if_pos z, if_neg (i_ne (by omega) (by omega) (by omega) (by omega) (by omega)), if_neg (by omega), Int.toNat_natCast]
    · rw [if_neg z, if_neg z, if_pos rfl, cv_gd_pos (ig ht (by omega) x0.2), ar_u ha ht (by omega) x0.2]
      have ew := ins_wy k v w hk
      have hc' := ch_wy U k _ w' (-1) hu
      rw [ew] at hc'
      rw [ch_get U (wy k v) (-1) (ch_app U k _ _ hc').1 p (by omega)]
      exact enter_L h' ht hab hr w hb hk p n (by omega) (by omega)
def eC (a b : Int) (v : Tr) (k : Int) (cr f : Int32) : Int32 := if hp_ a b v k = -1 then pyC cr (f * ii ((wy k v).length + 1)) else pyC (pyC cr (f * ii ((wy k v).length + 1))) (ii (0 - adN a b v k))
def eL (a b : Int) (v : Tr) (k : Int) (cr lw f : Int32) : Int32 := if hp_ a b v k = -1 then pyL cr lw (f * ii ((wy k v).length + 1)) else pyL (pyC cr (f * ii ((wy k v).length + 1))) (pyL cr lw (f * ii ((wy k v).length + 1))) (ii (0 - adN a b v k))
/-- ENTER -/
theorem enter6 {S : SX6} {t : Int} {v : Tr} (h : rc S t v) (ht : t = 0 ∨ t = 1) {a b : Int} (hab : ab S t a b) (hr : rat a b) {k : Int} (k0 : 0 ≤ k) (k1 : k < 100) (hk : k ∉ ks v) (hz : sz v ≤ 39) {m d c : Int} (hn : nm S t m d c) (hm : 0 ≤ m ∧ m ≤ 40) :
    ∃ S', fX6_enter S (ii t) (ii k) = some S' ∧ rc S' t (adT a b v k) ∧ nm S' t (max m (sz v + 1)) (d + adD a b v k) (c + adN a b v k) ∧ gX6_builtNow S' = ii (adN a b v k) ∧ hi_ t S S' ∧ (t = 0 → gX6_credit S' = eC a b v k (gX6_credit S) (gX6_fee S) ∧ gX6_lowest S' = eL a b v k (gX6_credit S) (gX6_lowest S) (gX6_fee S)) := by
  obtain ⟨S1, i1, i2, i3, i4, i5, i6⟩ := insert6 h ht k0 k1 hk hz hn hm
  obtain ⟨w, hb, -⟩ := id h
  have s0 := sz_nonneg v w
  have hl := wy_len v w k
  have hki : k ∈ ks (ins k v) := (ins_ks k k v w).mpr (Or.inl rfl)
  obtain ⟨S2, hS2⟩ : ∃ S2, S2 = sX6_builtNow S1 (ii 0) := ⟨_, rfl⟩
  have rc2 : rc S2 t (ins k v) := by rw [hS2]; exact i2
  have hd := depth6 rc2 ht hki
  rw [ins_wy k v w hk, List.length_append, List.length_singleton, show (((wy k v).length + 1 : Nat) : Int) - 1 = (wy k v).length by omega] at hd
  have fee2 : gX6_fee S2 = gX6_fee S := by rw [hS2]; exact (ot_fee i4.1 : gX6_fee S1 = _)
  obtain ⟨S3, y1, y2, y3, y4, y5, y6, y7⟩ := pay6 S2 ht (gX6_fee S * ii ((wy k v).length + 1))
  have rc3 : rc S3 t (ins k v) := by
    obtain ⟨w', hb', hz', L, R, U, H, ha, hrp, hu, hh⟩ := rc2
    exact ⟨w', hb', hz', L, R, U, H, y4 ha, hrp, hu, hh⟩
  have n2 : nm S2 t (max m (sz v + 1)) d c := by rw [hS2]; exact i3
  have n3 := y5 n2
  have h12 : hi_ t S1 S2 := by rw [hS2]; exact ⟨rfl, fun _ => ⟨zo_refl S1, zn_refl S1⟩⟩
  have h3 : hi_ t S S3 := hi_trans i4 (hi_trans h12 y2)
  have ab3 : ab S3 t a b := ab_ot h3.1 hab
  have many3 : gX6_many S3 (ii t).toNatClampNeg = ii (sz v + 1) := by
    obtain ⟨_, _, _, L, R, U, H, ha, _⟩ := rc3
    rw [ar_n ha ht, ins_sz k v w]
  have lk := limit6 (n := sz v + 1) ab3 hr (by omega) (by omega)
  have lb := lim_ok hr (n := sz v + 1) (by omega) (by omega)
  have c3 : t = 0 → gX6_credit S3 = pyC (gX6_credit S) (gX6_fee S * ii ((wy k v).length + 1)) ∧ gX6_lowest S3 = pyL (gX6_credit S) (gX6_lowest S) (gX6_fee S * ii ((wy k v).length + 1)) := fun e => by
    have q := y3 e
    have e1 : gX6_credit S2 = gX6_credit S := by rw [hS2]; exact (i5 : gX6_credit S1 = _)
    have e2 : gX6_lowest S2 = gX6_lowest S := by rw [hS2]; exact (i6 : gX6_lowest S1 = _)
    rw [e1, e2] at q
    exact q
  have bn3 : gX6_builtNow S3 = ii 0 := by rw [y6, hS2]; rfl
  have base : ∀ res, (if ii (wy k v).length ≤ ii (lim a b (sz v + 1)) then some S3 else cv_bd (fX6_enter_L49 S3 (ii t) 256 (ii k)) fun j13 => if j13 = ii (-1) then some S3 else cv_bd (fX6_build S3 (ii t) j13) fun r16 => some r16) = res → fX6_enter S (ii t) (ii k) = res := fun res hres => by
    unfold fX6_enter
    rw [cv_bd_eq i1]
    simp only [ii_l0, ii_l1, ii_l2, ii_l40, ii_l100, ii_neg, cv_lt_eq]
    rw [← hS2, cv_bd_eq hd, fee2, ii_add, cv_bd_eq y1, cv_gd_pos (ig2 ht), many3, cv_bd_eq lk]
    exact hres
  -- the way back
  have hL : fX6_enter_L49 S3 (ii t) 256 (ii k) = some (ii (if tp (hc a b v (wy k v)) (wy k v).length = -1 then -1 else (wy k v).getD (tp (hc a b v (wy k v)) (wy k v).length).toNat 0)) := by
    obtain ⟨w', hb', hz', L, R, U, H, ha, hrp, hu, hh⟩ := id rc3
    have ek : at_ k (ins k v) = nd k lf lf := by
      have q : ∀ u : Tr, tr_wf u → k ∉ ks u → at_ k (ins k u) = nd k lf lf := tr_ind (fun _ => by rw [ins_lf, at_nd, if_pos rfl]) (fun x l r w1 w2 h1 h2 hn => by
        rw [ks_nd] at hn
        have hx : k ≠ x := fun h => hn (by simp [h])
        rw [ins_nd]
        by_cases q : k < x
        · rw [if_pos q, at_nd, if_neg hx, if_pos q]; exact h1 (fun h => hn (by simp [h]))
        · rw [if_neg q, at_nd, if_neg hx, if_neg q]; exact h2 (fun h => hn (by simp [h])))
      exact q v w hk
    have hlo := lop6 rc3 ht ab3 hr hki ek trivial trivial
    have hr' : 2 ≤ a ∧ a ≤ 4 ∧ 3 ≤ b ∧ b ≤ 5 := by unfold rat at hr; omega
    rw [sz_lf, if_neg (by rw [show max (0 : Int) 0 = 0 from rfl, Int.mul_zero]; omega)] at hlo
    have hc' := ch_wy U k _ w' (-1) hu
    rw [ins_wy k v w hk] at hc'
    have uk := (ch_app U k _ _ hc').2
    show fX6_enter_L49 S3 (ii t) (255 + 1) (ii k) = _
    unfold fX6_enter_L49
    simp only [ii_l0, ii_l1, ii_l2, ii_l40, ii_l100, ii_neg, ix, cv_lt_eq]
    rw [if_neg (i_ne (by omega) (by omega) (by omega) (by omega) (by omega)), cv_bd_eq hlo, if_pos rfl, cv_gd_pos (ig ht k0 k1), ar_u ha ht k0 k1, uk]
    rw [← enter_L rc3 ht ab3 hr w hb hk (wy k v).length 255 (by omega) (by omega)]
    congr 2
    by_cases z : (wy k v).length = 0
    · rw [if_pos z, List.length_eq_zero_iff.mp z]; rfl
    · rw [if_neg z, last_gd _ (by omega)]
  unfold eC eL adN adT adD
  rcases hp_in a b v k with z | z
  · simp only [if_pos z]
    refine ⟨S3, base _ ?_, rc3, by rw [Int.add_zero, Int.add_zero]; exact n3, bn3, h3, c3⟩
    unfold hp_ at z
    by_cases g : ((wy k v).length : Int) ≤ lim a b (sz v + 1)
    · rw [if_pos ((ii_le (by omega) (by omega) (by omega) (by omega)).mpr g)]
    · rw [if_neg g] at z
      rw [if_neg (fun y => g ((ii_le (by omega) (by omega) (by omega) (by omega)).mp y)), cv_bd_eq hL, if_pos z, if_pos rfl]
  · have zn : ¬ hp_ a b v k = -1 := by omega
    simp only [if_neg zn]
    have g : ¬ ((wy k v).length : Int) ≤ lim a b (sz v + 1) := fun g => zn (by unfold hp_; rw [if_pos g])
    have etp : tp (hc a b v (wy k v)) (wy k v).length = hp_ a b v k := by unfold hp_; rw [if_neg g]
    rw [etp, if_neg zn] at hL
    obtain ⟨x, hx⟩ : ∃ x, x = hx_ a b v k := ⟨_, rfl⟩
    have hxe : (wy k v).getD (hp_ a b v k).toNat 0 = x := by rw [hx]; rfl
    rw [hxe] at hL
    have xw : x ∈ wy k v := by rw [← hxe]; exact getD_mem (by omega)
    have xk : x ∈ ks v := wy_sub v w k x xw
    have x0 := rc_in h xk
    have hsx : sz (at_ x (ins k v)) = sz (at_ x v) + 1 := by
      rw [ins_at k x v w _ _ hb hk, if_neg (fun z => hk (by rw [← z]; exact xk)), if_pos xw]
    obtain ⟨S', b1, b2, b3, b4, b5, b6⟩ := build6 rc3 ht ((ins_ks k x v w).mpr (Or.inr xk)) n3
    rw [← hx]
    rw [hsx] at b3 b4 b6
    refine ⟨S', base _ ?_, b2, b3, b4, hi_trans h3 b5, fun e => ?_⟩
    · rw [if_neg (fun y => g ((ii_le (by omega) (by omega) (by omega) (by omega)).mp y)), cv_bd_eq hL, if_neg (i_ne (by omega) (by omega) (by omega) (by omega) (by omega)), cv_bd_eq b1]
    · have q := b6 e
      rw [(c3 e).1, (c3 e).2] at q
      exact q
