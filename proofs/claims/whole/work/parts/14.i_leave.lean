/-! the reference's trees: LEAVE, EMPTY, BEGIN -/
theorem gr_top (u : Tr) {v : Tr} (w : tr_wf v) (hne : ¬ em v = true) : gr (rt v) u v = u ∧ at_ (rt v) v = v := by
  rcases tr_cases w with z | ⟨x, l, r, z, _, _⟩
  · exact absurd (by rw [z]; rfl) hne
  · rw [z, rt_nd, gr_nd, if_pos rfl, at_nd, if_pos rfl]
    exact ⟨rfl, rfl⟩
def vC (a b m : Int) (v : Tr) (k : Int) (cr f : Int32) : Int32 := if drF a b m v = true then pyC (pyC cr (f * ii (wy k v).length)) (ii (0 - drN a b m v)) else pyC cr (f * ii (wy k v).length)
def vL (a b m : Int) (v : Tr) (k : Int) (cr lw f : Int32) : Int32 := if drF a b m v = true then pyL (pyC cr (f * ii (wy k v).length)) (pyL cr lw (f * ii (wy k v).length)) (ii (0 - drN a b m v)) else pyL cr lw (f * ii (wy k v).length)
/-- LEAVE -/
theorem leave6 {S : SX6} {t : Int} {v : Tr} (h : rc S t v) (ht : t = 0 ∨ t = 1) {a b : Int} (hab : ab S t a b) (hr : rat a b) {k : Int} (hk : k ∈ ks v) {m d c : Int} (hn : nm S t m d c) (hm : 0 ≤ m ∧ m ≤ 40) :
    ∃ S', fX6_leave S (ii t) (ii k) = some S' ∧ rc S' t (drT a b m v k) ∧ nm S' t (drO a b m v) (d + drD a b m v) (c + drN a b m v) ∧ gX6_builtNow S' = ii (drN a b m v) ∧ hi_ t S S' ∧ (t = 0 → gX6_credit S' = vC a b m v k (gX6_credit S) (gX6_fee S) ∧ gX6_lowest S' = vL a b m v k (gX6_credit S) (gX6_lowest S) (gX6_fee S)) := by
  have h' := h
  obtain ⟨w, hb, hz, -⟩ := h
  have hr' : 2 ≤ a ∧ a ≤ 4 ∧ 3 ≤ b ∧ b ≤ 5 := by unfold rat at hr; omega
  have hd := depth6 h' ht hk
  obtain ⟨S1, y1, y2, y3, y4, y5, y6, y7⟩ := pay6 S ht (gX6_fee S * ii (wy k v).length)
  have rc1 : rc S1 t v := by
    obtain ⟨w', hb', hz', L, R, U, H, ha, hrp, hu, hh⟩ := h'
    exact ⟨w', hb', hz', L, R, U, H, y4 ha, hrp, hu, hh⟩
  have n1 := y5 hn
  obtain ⟨S2, e1, e2, e3⟩ := remove6 rc1 ht hk
  have n2 := nm_ou e3.1 n1
  obtain ⟨S3, hS3⟩ : ∃ S3, S3 = sX6_builtNow S2 (ii 0) := ⟨_, rfl⟩
  have rc3 : rc S3 t (dl k v) := by rw [hS3]; exact e2
  have n3 : nm S3 t m d c := by rw [hS3]; exact n2
  have h3 : hi_ t S S3 := hi_trans y2 (hi_trans (lo_hi e3) (by rw [hS3]; exact ⟨rfl, fun _ => ⟨zo_refl S2, zn_refl S2⟩⟩))
  have ab3 := ab_ot h3.1 hab
  have c3 : t = 0 → gX6_credit S3 = pyC (gX6_credit S) (gX6_fee S * ii (wy k v).length) ∧ gX6_lowest S3 = pyL (gX6_credit S) (gX6_lowest S) (gX6_fee S * ii (wy k v).length) := fun e => by
    have q := y3 e
    rw [hS3, ← q.1, ← q.2]
    exact ⟨(ou_credit e3.1 : gX6_credit S2 = _), (ou_lowest e3.1 : gX6_lowest S2 = _)⟩
  have bn3 : gX6_builtNow S3 = ii 0 := by rw [hS3]; rfl
  obtain ⟨v', hv'⟩ : ∃ v', v' = dl k v := ⟨_, rfl⟩
  have wv := dl_wf w hb hk
  have sv := dl_sz w hb hk
  have sv0 := sz_nonneg _ wv
  rw [← hv'] at rc3 wv sv sv0
  have many3 : gX6_many S3 (ii t).toNatClampNeg = ii (sz v') := by
    obtain ⟨_, _, _, L, R, U, H, ha, _⟩ := rc3
    exact ar_n ha ht
  have root3 : gX6_root S3 (ii t).toNatClampNeg = ii (rt v') := by
    obtain ⟨_, _, _, L, R, U, H, ha, _⟩ := rc3
    exact ar_ro ha ht
  have gt := ig2 ht
  have p1 : b * sz v' ≤ 5 * 41 := Int.mul_le_mul (by omega) (by omega) (by omega) (by omega)
  have p2 : 0 ≤ b * sz v' := Int.mul_nonneg (by omega) (by omega)
  have p3 : a * m ≤ 5 * 41 := Int.mul_le_mul (by omega) (by omega) (by omega) (by omega)
  have p4 : 0 ≤ a * m := Int.mul_nonneg (by omega) (by omega)
  have base : ∀ res, (cv_bd (if sz v' ≤ 0 then some S3 else if a * m ≤ b * sz v' then some S3 else cv_bd (fX6_build S3 (ii t) (ii (rt v'))) fun r22 => some (sX6_most r22 (upd (gX6_most r22) (ii t).toNatClampNeg (gX6_many r22 (ii t).toNatClampNeg)))) fun j6 => if gX6_many j6 (ii t).toNatClampNeg = ii 0 then some (sX6_most j6 (upd (gX6_most j6) (ii t).toNatClampNeg (ii 0))) else some (sX6_most j6 (upd (gX6_most j6) (ii t).toNatClampNeg (gX6_most j6 (ii t).toNatClampNeg)))) = res → fX6_leave S (ii t) (ii k) = res := fun res hres => by
    unfold fX6_leave
    simp only [ii_l0, ii_l1, ii_l2, ii_l40, ii_l100, ii_neg, cv_lt_eq]
    rw [cv_bd_eq hd, ii_add, show ((wy k v).length : Int) - 1 + 1 = (wy k v).length by omega, cv_bd_eq y1, cv_bd_eq e1, ← hS3]
    simp only [cv_gd_pos gt]
    rw [many3, root3, n3.1, cv_bd_eq ab3.2, cv_bd_eq ab3.1, ii_mul, ii_mul]
    simp (disch := omega) only [ii_le]
    exact hres
  -- the end: the most there were
  have fin : ∀ (S4 : SX6) (v4 : Tr) (m4 d4 c4 : Int), rc S4 t v4 → nm S4 t m4 d4 c4 → ∃ S', (if gX6_many S4 (ii t).toNatClampNeg = ii 0 then some (sX6_most S4 (upd (gX6_most S4) (ii t).toNatClampNeg (ii 0))) else some (sX6_most S4 (upd (gX6_most S4) (ii t).toNatClampNeg (gX6_most S4 (ii t).toNatClampNeg)))) = some S' ∧ rc S' t v4 ∧ nm S' t (if sz v4 = 0 then 0 else m4) d4 c4 ∧ gX6_builtNow S' = gX6_builtNow S4 ∧ hi_ t S4 S' ∧ gX6_credit S' = gX6_credit S4 ∧ gX6_lowest S' = gX6_lowest S4 := by
    intro S4 v4 m4 d4 c4 r4 n4
    have h4 := r4
    obtain ⟨w4, _, z4, L, R, U, H, ha, _⟩ := r4
    have z5 := sz_nonneg v4 w4
    rw [ar_n ha ht]
    by_cases z : sz v4 = 0
    · rw [if_pos (by rw [z]), if_pos z]
      exact ⟨_, rfl, h4, ⟨upd_1 _ _ _, n4.2⟩, rfl, ⟨rfl, fun e => ⟨zo_refl S4, upd_10 e _ _, rfl, rfl, rfl, rfl⟩⟩, rfl, rfl⟩
    · rw [if_neg (i_ne (by omega) (by omega) (by omega) (by omega) z), if_neg z]
      exact ⟨_, rfl, h4, ⟨(upd_1 _ _ _).trans n4.1, n4.2⟩, rfl, ⟨rfl, fun e => ⟨zo_refl S4, upd_10 e _ _, rfl, rfl, rfl, rfl⟩⟩, rfl, rfl⟩
  unfold vC vL drT drN drO drD
  by_cases f : drF a b m v = true
  · simp only [if_pos f]
    have f' : 0 < sz v - 1 ∧ b * (sz v - 1) < a * drM m v := of_decide_eq_true f
    have em' : drM m v = m := by unfold drM; rw [if_neg (by omega)]
    rw [em', ← sv] at f'
    have ne : ¬ em v' = true := fun z => by have := (em_sz wv).mp z; omega
    obtain ⟨S4, b1, b2, b3, b4, b5, b6⟩ := build6 rc3 ht (top := rt v') (rt_mem wv (em_ne wv ne)) n3
    rw [(gr_top _ wv ne).1, (gr_top (fk v') wv ne).2] at b2
    rw [(gr_top (fk v') wv ne).2] at b3 b4 b6
    have many4 : gX6_many S4 (ii t).toNatClampNeg = ii (sz v') := by
      obtain ⟨_, _, _, L, R, U, H, ha, _⟩ := b2
      rw [ar_n ha ht, fk_sz wv (by omega)]
    obtain ⟨S5, hS5⟩ : ∃ S5, S5 = sX6_most S4 (upd (gX6_most S4) (ii t).toNatClampNeg (ii (sz v'))) := ⟨_, rfl⟩
    obtain ⟨S6, g1, g2, g3, g4, g5, g6, g7⟩ := fin S5 (fk v') (sz v') (d + 1) (c + sz v') (by rw [hS5]; exact b2) (by rw [hS5]; exact ⟨upd_1 _ _ _, b3.2⟩)
    rw [fk_sz wv (by omega), if_neg (by omega)] at g3
    have h5 : hi_ t S4 S5 := by rw [hS5]; exact ⟨rfl, fun e => ⟨zo_refl S4, upd_10 e _ _, rfl, rfl, rfl, rfl⟩⟩
    rw [← hv', ← sv]
    refine ⟨S6, base _ ?_, g2, g3, by rw [g4, hS5]; exact b4, hi_trans h3 (hi_trans b5 (hi_trans h5 g5)), fun e => ?_⟩
    · rw [if_neg (by omega), if_neg (by omega), cv_bd_eq b1, many4, ← hS5, cv_bd_some]
      exact g1
    · rw [g6, g7, hS5]
      have q := b6 e
      rw [(c3 e).1, (c3 e).2] at q
      exact q
  · simp only [if_neg f]
    obtain ⟨S4, g1, g2, g3, g4, g5, g6, g7⟩ := fin S3 v' m d c rc3 n3
    have nf : ¬ (0 < sz v - 1 ∧ b * (sz v - 1) < a * drM m v) := fun z => f (decide_eq_true z)
    have em' : (if sz v' = 0 then 0 else m) = drM m v := by unfold drM; rw [sv]
    rw [em'] at g3
    rw [← hv', Int.add_zero, Int.add_zero]
    refine ⟨S4, base _ ?_, g2, g3, by rw [g4, bn3], hi_trans h3 g5, fun e => by rw [g6, g7]; exact c3 e⟩
    by_cases z : sz v' ≤ 0
    · rw [if_pos z, cv_bd_some]; exact g1
    · have em2 : drM m v = m := by unfold drM; rw [if_neg (by omega)]
      rw [em2, ← sv] at nf
      rw [if_neg z, if_pos (by omega), cv_bd_some]
      exact g1
/-- EMPTY -/
theorem empty_L {t : Int} (ht : t = 0 ∨ t = 1) : ∀ (m n : Nat) (c : Int) (S : SX6) (L R U H : Int → Int) (r k : Int), ar S t L R U H r k → 0 ≤ c → c + m = 100 → (∀ j, 0 ≤ j → j < c → H j = 0) → m < n → ∃ S' H', fX6_empty_L2 (ii t) n (ii c) S = some S' ∧ lo t S S' ∧ ar S' t L R U H' r k ∧ ∀ j, 0 ≤ j → j < 100 → H' j = 0
  | 0, n, c, S, L, R, U, H, r, k, ha, h1, h2, h3, hn => by
    obtain ⟨n, rfl⟩ : ∃ m, n = m + 1 := ⟨n - 1, by omega⟩
    refine ⟨S, H, ?_, lo_refl t S, ha, fun j a b => h3 j a (by omega)⟩
    unfold fX6_empty_L2
    rw [ii_l100, if_pos ((ii_le (by omega) (by omega) (by omega) (by omega)).mpr (by omega))]
  | m + 1, n, c, S, L, R, U, H, r, k, ha, h1, h2, h3, hn => by
    obtain ⟨n, rfl⟩ : ∃ m, n = m + 1 := ⟨n - 1, by omega⟩
    obtain ⟨S', H', e1, e2, e3, e4⟩ := empty_L ht m n (c + 1) _ _ _ _ _ _ _ (w_h ha ht (k := c) (v := 0) h1 (by omega) (by omega) (by omega)) (by omega) (by omega) (fun j a b => by
      by_cases z : j = c
      · rw [fu_p _ z]
      · rw [fu_n _ z]; exact h3 j a (by omega)) (by omega)
    refine ⟨S', H', ?_, lo_trans (l_h S h1 (by omega) (by omega) (by omega)) e2, e3, e4⟩
    unfold fX6_empty_L2
    simp only [ii_l0, ii_l1, ii_l2, ii_l40, ii_l100, ii_neg, ix, cv_lt_eq]
    rw [if_neg (fun z => by rw [ii_le (by omega) (by omega) (by omega) (by omega)] at z; omega), cv_gd_pos (ig ht h1 (by omega)), ii_add]
    exact e1
theorem ar_self (S : SX6) (t : Int) : ar S t (fun k => rd (gX6_left S) (100 * t + k)) (fun k => rd (gX6_right S) (100 * t + k)) (fun k => rd (gX6_above S) (100 * t + k)) (fun k => rd (gX6_there S) (100 * t + k)) (rd (gX6_root S) t) (rd (gX6_many S) t) := ⟨fun _ _ _ => rfl, fun _ _ _ => rfl, fun _ _ _ => rfl, fun _ _ _ => rfl, rfl, rfl⟩
theorem empty6 (S : SX6) {t : Int} (ht : t = 0 ∨ t = 1) : ∃ S', fX6_empty S (ii t) = some S' ∧ rc S' t lf ∧ nm S' t 0 0 0 ∧ hi_ t S S' := by
  obtain ⟨S1, H', e1, e2, e3, e4⟩ := empty_L ht 100 256 0 S _ _ _ _ _ _ (ar_self S t) (by omega) (by omega) (fun j a b => by omega) (by omega)
  have gt := ig2 ht
  have a3 := w_n (w_ro e3 ht (v := -1) (by omega) (by omega)) ht (v := 0) (by omega) (by omega)
  have l3 := lo_trans e2 (lo_trans (l_ro (t := t) S1 (v := -1) (by omega) (by omega)) (l_n (t := t) _ (v := 0) (by omega) (by omega)))
  obtain ⟨S3, hS3⟩ : ∃ S3, S3 = sX6_many (sX6_root S1 (upd (gX6_root S1) (ii t).toNatClampNeg (ii (-1)))) (upd (gX6_many (sX6_root S1 (upd (gX6_root S1) (ii t).toNatClampNeg (ii (-1))))) (ii t).toNatClampNeg (ii 0)) := ⟨_, rfl⟩
  rw [← hS3] at a3 l3
  refine ⟨sX6_cost (sX6_built (sX6_most S3 (upd (gX6_most S3) (ii t).toNatClampNeg (ii 0))) (upd (gX6_built S3) (ii t).toNatClampNeg (ii 0))) (upd (gX6_cost S3) (ii t).toNatClampNeg (ii 0)), ?_, ?_, ⟨upd_1 _ _ _, upd_1 _ _ _, upd_1 _ _ _⟩, hi_trans (lo_hi l3) ⟨rfl, fun e => ⟨zo_refl S3, upd_10 e _ _, upd_10 e _ _, upd_10 e _ _, rfl, rfl⟩⟩⟩
  · unfold fX6_empty
    simp only [ii_l0, ii_l1, ii_l2, ii_l40, ii_l100, ii_neg, cv_lt_eq, cv_gd_pos gt]
    rw [cv_bd_eq e1, hS3]
    rfl
  · exact ⟨trivial, trivial, by rw [sz_lf]; omega, _, _, _, H', a3, trivial, trivial, fun k k0 k1 => by rw [e4 k k0 k1, ks_lf, if_neg (by simp)]⟩
/-- BEGIN -/
theorem begin_L : ∀ (m n : Nat) (c : Int) (S : SX6), 0 ≤ c → c + m = 100 → m < n → ∃ S', fX6_begin_L2 n (ii c) S = some S' ∧ lo 1 S S' ∧ (∀ j, 0 ≤ j → j < 100 → (rd (gX6_left S') (100 + j) = if c ≤ j then rd (gX6_left S) j else rd (gX6_left S) (100 + j)) ∧ (rd (gX6_right S') (100 + j) = if c ≤ j then rd (gX6_right S) j else rd (gX6_right S) (100 + j)) ∧ (rd (gX6_above S') (100 + j) = if c ≤ j then rd (gX6_above S) j else rd (gX6_above S) (100 + j)) ∧ (rd (gX6_there S') (100 + j) = if c ≤ j then rd (gX6_there S) j else rd (gX6_there S) (100 + j)))
  | 0, n, c, S, h1, h2, hn => by
    obtain ⟨n, rfl⟩ : ∃ m, n = m + 1 := ⟨n - 1, by omega⟩
    refine ⟨S, ?_, lo_refl 1 S, fun j a b => by rw [if_neg (show ¬ c ≤ j by omega), if_neg (show ¬ c ≤ j by omega), if_neg (show ¬ c ≤ j by omega), if_neg (show ¬ c ≤ j by omega)]; exact ⟨rfl, rfl, rfl, rfl⟩⟩
    unfold fX6_begin_L2
    rw [ii_l100, if_pos ((ii_le (by omega) (by omega) (by omega) (by omega)).mpr (by omega))]
  | m + 1, n, c, S, h1, h2, hn => by
    obtain ⟨n, rfl⟩ : ∃ m, n = m + 1 := ⟨n - 1, by omega⟩
    obtain ⟨S1, hS1⟩ : ∃ S1, S1 = sX6_there (sX6_above (sX6_right (sX6_left S (upd (gX6_left S) (ii (100 + c)).toNatClampNeg (ii (rd (gX6_left S) c)))) (upd (gX6_right S) (ii (100 + c)).toNatClampNeg (ii (rd (gX6_right S) c)))) (upd (gX6_above S) (ii (100 + c)).toNatClampNeg (ii (rd (gX6_above S) c)))) (upd (gX6_there S) (ii (100 + c)).toNatClampNeg (ii (rd (gX6_there S) c))) := ⟨_, rfl⟩
    obtain ⟨S', e1, e2, e3⟩ := begin_L m n (c + 1) S1 (by omega) (by omega) (by omega)
    have u : ∀ (f : Nat → Int32) (j : Int), 0 ≤ j → rd (upd f (ii (100 + c)).toNatClampNeg (ii (rd f c))) j = if j = 100 + c then rd f c else rd f j := fun f j j0 => by
      have q1 := rd_lo f c
      have q2 := rd_hi f c
      rw [rd_upd f (by omega) (by omega) (by omega) (by omega) j0]
    have g : gX6_left S1 = upd (gX6_left S) (ii (100 + c)).toNatClampNeg (ii (rd (gX6_left S) c)) ∧ gX6_right S1 = upd (gX6_right S) (ii (100 + c)).toNatClampNeg (ii (rd (gX6_right S) c)) ∧ gX6_above S1 = upd (gX6_above S) (ii (100 + c)).toNatClampNeg (ii (rd (gX6_above S) c)) ∧ gX6_there S1 = upd (gX6_there S) (ii (100 + c)).toNatClampNeg (ii (rd (gX6_there S) c)) := by rw [hS1]; exact ⟨rfl, rfl, rfl, rfl⟩
    have l1 : lo 1 S S1 := ⟨by rw [hS1]; rfl, fun _ => ⟨fun j a b => by rw [g.1, g.2.1, g.2.2.1, g.2.2.2, u _ j a, u _ j a, u _ j a, u _ j a, if_neg (by omega), if_neg (by omega), if_neg (by omega), if_neg (by omega)]; exact ⟨rfl, rfl, rfl, rfl⟩, by rw [hS1]; rfl, by rw [hS1]; rfl⟩⟩
    refine ⟨S', ?_, lo_trans l1 e2, fun j a b => ?_⟩
    · unfold fX6_begin_L2
      simp only [ii_l0, ii_l1, ii_l2, ii_l40, ii_l100, ii_neg, cv_lt_eq, ii_add]
      have g1 := ii_in (k := c) (n := 200) h1 (by omega) (by omega)
      have g2 := ii_in (k := 100 + c) (n := 200) (by omega) (by omega) (by omega)
      rw [if_neg (fun z => by rw [ii_le (by omega) (by omega) (by omega) (by omega)] at z; omega)]
      simp only [cv_gd_pos g1, cv_gd_pos g2]
      rw [qX6_left S h1 (by omega)]
      have s1 : ∀ f, gX6_right (sX6_left S f) (ii c).toNatClampNeg = ii (rd (gX6_right S) c) := fun f => qX6_right S h1 (by omega)
      have s2 : ∀ f g, gX6_above (sX6_right (sX6_left S f) g) (ii c).toNatClampNeg = ii (rd (gX6_above S) c) := fun f g => qX6_above S h1 (by omega)
      have s3 : ∀ f g i, gX6_there (sX6_above (sX6_right (sX6_left S f) g) i) (ii c).toNatClampNeg = ii (rd (gX6_there S) c) := fun f g i => qX6_there S h1 (by omega)
      rw [s1, s2, s3]
      rw [hS1] at e1
      exact e1
    · obtain ⟨f1, f2, f3, f4⟩ := e3 j a b
      rw [g.1, u _ _ a, u _ _ (by omega)] at f1
      rw [g.2.1, u _ _ a, u _ _ (by omega)] at f2
      rw [g.2.2.1, u _ _ a, u _ _ (by omega)] at f3
      rw [g.2.2.2, u _ _ a, u _ _ (by omega)] at f4
      by_cases z : j = c
      · subst z
        rw [if_neg (by omega), if_pos rfl] at f1 f2 f3 f4
        rw [if_pos (by omega), if_pos (by omega), if_pos (by omega), if_pos (by omega)]
        exact ⟨f1, f2, f3, f4⟩
      · have hz : ¬ j = 100 + c := by omega
        have hy : ¬ 100 + j = 100 + c := by omega
        simp only [if_neg hz, if_neg hy] at f1 f2 f3 f4
        by_cases y : c ≤ j
        · rw [if_pos (by omega)] at f1 f2 f3 f4
          rw [if_pos y, if_pos y, if_pos y, if_pos y]
          exact ⟨f1, f2, f3, f4⟩
        · rw [if_neg (by omega)] at f1 f2 f3 f4
          rw [if_neg y, if_neg y, if_neg y, if_neg y]
          exact ⟨f1, f2, f3, f4⟩
/-- what BEGIN leaves: all but the two ratios -/
def ob (S : SX6) := (gX6_page S, gX6_pageMany S, gX6_kinds S, gX6_values S, gX6_ratioA S, gX6_ratioB S, gX6_fee S, gX6_log S, gX6_logMany S, gX6_shelvesRead S, gX6_seenMany S, gX6_sights S, gX6_seedNow S, gX6_keptShelf S, gX6_keptRoot S, gX6_keptMany S, gX6_keptMost S, gX6_keptBuilt S, gX6_keptCost S, gX6_keptCredit S, gX6_keptLowest S, gX6_keptLogMany S, gX6_keptSeen S, gX6_keptLeft S, gX6_keptRight S, gX6_keptAbove S, gX6_keptThere S, gX6_keptKinds S, gX6_keptValues S, gX6_keptLog S, gX6_keptSights S, gX6_hash S)
theorem begin6 {S : SX6} {v : Tr} (h : rc S 0 v) {a b m d c : Int} (hab : ab S 0 a b) (hn : nm S 0 m d c) : ∃ S', fX6_begin S = some S' ∧ rc S' 1 v ∧ nm S' 1 m 0 0 ∧ ab S' 1 a b ∧ ob S' = ob S ∧ zo S S' ∧ zn S S' := by
  obtain ⟨S1, e1, e2, e3⟩ := begin_L 100 256 0 S (by omega) (by omega) (by omega)
  obtain ⟨w, hb, hz, L, R, U, H, ha, hp, hu, hh⟩ := h
  have s0 := sz_nonneg v w
  have rb := rt_lt w hb (by omega) (by omega)
  have z1 := e2.2 rfl
  have ro1 : gX6_root S1 (ii 0).toNatClampNeg = ii (rt v) := by rw [qX6_root S1 (by omega) (by omega), z1.2.1, ha.2.2.2.2.1]
  have ma1 : gX6_many S1 (ii 0).toNatClampNeg = ii (sz v) := by rw [qX6_many S1 (by omega) (by omega), z1.2.2, ha.2.2.2.2.2]
  have mo1 : gX6_most S1 (ii 0).toNatClampNeg = ii m := by rw [ou_most e2.1]; exact hn.1
  have ra1 : gX6_ratioA S1 = ii a ∧ gX6_ratioB S1 = ii b := by
    have q := ab_ot (ou_ot e2.1) hab
    exact ⟨Option.some.inj q.1, Option.some.inj q.2⟩
  have a1 : ar S1 1 L R U H (rd (gX6_root S1) 1) (rd (gX6_many S1) 1) := ⟨fun k k0 k1 => by rw [show (100 : Int) * 1 + k = 100 + k by omega, (e3 k k0 k1).1, if_pos k0]; have := ha.1 k k0 k1; rw [show (100 : Int) * 0 + k = k by omega] at this; exact this, fun k k0 k1 => by rw [show (100 : Int) * 1 + k = 100 + k by omega, (e3 k k0 k1).2.1, if_pos k0]; have := ha.2.1 k k0 k1; rw [show (100 : Int) * 0 + k = k by omega] at this; exact this, fun k k0 k1 => by rw [show (100 : Int) * 1 + k = 100 + k by omega, (e3 k k0 k1).2.2.1, if_pos k0]; have := ha.2.2.1 k k0 k1; rw [show (100 : Int) * 0 + k = k by omega] at this; exact this, fun k k0 k1 => by rw [show (100 : Int) * 1 + k = 100 + k by omega, (e3 k k0 k1).2.2.2, if_pos k0]; have := ha.2.2.2.1 k k0 k1; rw [show (100 : Int) * 0 + k = k by omega] at this; exact this, rfl, rfl⟩
  obtain ⟨S2, hS2⟩ : ∃ S2, S2 = sX6_many (sX6_root S1 (upd (gX6_root S1) (ii 1).toNatClampNeg (ii (rt v)))) (upd (gX6_many S1) (ii 1).toNatClampNeg (ii (sz v))) := ⟨_, rfl⟩
  have a2 : ar S2 1 L R U H (rt v) (sz v) := by rw [hS2]; exact w_n (w_ro a1 (Or.inr rfl) (v := rt v) rb.1 rb.2) (Or.inr rfl) (v := sz v) (by omega) (by omega)
  have l2 : lo 1 S S2 := lo_trans e2 (by rw [hS2]; exact lo_trans (l_ro (t := 1) S1 (v := rt v) rb.1 rb.2) (l_n (t := 1) _ (v := sz v) (by omega) (by omega)))
  refine ⟨sX6_thenB (sX6_thenA (sX6_cost (sX6_built (sX6_most S2 (upd (gX6_most S2) (ii 1).toNatClampNeg (ii m))) (upd (gX6_built S2) (ii 1).toNatClampNeg (ii 0))) (upd (gX6_cost S2) (ii 1).toNatClampNeg (ii 0))) (ii a)) (ii b), ?_, ?_, ⟨upd_1 (gX6_most S2) (ii 1).toNatClampNeg (ii m), upd_1 (gX6_built S2) (ii 1).toNatClampNeg (ii 0), upd_1 (gX6_cost S2) (ii 1).toNatClampNeg (ii 0)⟩, ⟨rfl, rfl⟩, ?_, l2.2 rfl, ?_⟩
  · unfold fX6_begin
    simp only [ii_l0, ii_l1, ii_l2, ii_l40, ii_l100, ii_neg, cv_lt_eq]
    have g0 := ig2 (t := 0) (Or.inl rfl)
    have g1 := ig2 (t := 1) (Or.inr rfl)
    rw [cv_bd_eq e1]
    simp only [cv_gd_pos g0, cv_gd_pos g1]
    rw [ro1]
    have t1 : ∀ f, gX6_many (sX6_root S1 f) (ii 0).toNatClampNeg = ii (sz v) := fun f => ma1
    have t2 : ∀ f g, gX6_most (sX6_many (sX6_root S1 f) g) (ii 0).toNatClampNeg = ii m := fun f g => mo1
    rw [t1, t2]
    have t3 : ∀ f g i j k, gX6_ratioA (sX6_cost (sX6_built (sX6_most (sX6_many (sX6_root S1 f) g) i) j) k) = ii a := fun _ _ _ _ _ => ra1.1
    have t4 : ∀ f g i j k x, gX6_ratioB (sX6_thenA (sX6_cost (sX6_built (sX6_most (sX6_many (sX6_root S1 f) g) i) j) k) x) = ii b := fun _ _ _ _ _ _ => ra1.2
    rw [t3, t4, hS2]
    rfl
  · exact ⟨w, hb, hz, L, R, U, H, a2, hp, hu, hh⟩
  · have q : ob S2 = ob S := by
      have q0 := ou_ot l2.1
      unfold ob
      rw [ot_page q0, ot_pageMany q0, ot_kinds q0, ot_values q0, ot_ratioA q0, ot_ratioB q0, ot_fee q0, ot_log q0, ot_logMany q0, ot_shelvesRead q0, ot_seenMany q0, ot_sights q0, ot_seedNow q0, ot_keptShelf q0, ot_keptRoot q0, ot_keptMany q0, ot_keptMost q0, ot_keptBuilt q0, ot_keptCost q0, ot_keptCredit q0, ot_keptLowest q0, ot_keptLogMany q0, ot_keptSeen q0, ot_keptLeft q0, ot_keptRight q0, ot_keptAbove q0, ot_keptThere q0, ot_keptKinds q0, ot_keptValues q0, ot_keptLog q0, ot_keptSights q0, ot_hash q0]
    exact q
  · have q := (lo_hi l2).2 rfl
    exact ⟨(upd_10 rfl (gX6_most S2) (ii m)).trans q.2.1, (upd_10 rfl (gX6_built S2) (ii 0)).trans q.2.2.1, (upd_10 rfl (gX6_cost S2) (ii 0)).trans q.2.2.2.1, q.2.2.2.2.1, q.2.2.2.2.2⟩
