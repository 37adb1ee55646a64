/-! the reference's trees: ENTER -/
theorem insert_L {S : SX6} {t : Int} {L R U H : Int → Int} {r n k : Int} (ha : ar S t L R U H r n) (ht : t = 0 ∨ t = 1) (k0 : 0 ≤ k) (k1 : k < 100) : ∀ u : Tr, tr_wf u → ∀ lo hi : Int, bst lo hi u → -1 ≤ lo → hi ≤ 100 → k ∉ ks u → rp L R u → ∀ (m : Nat) (on : Int), (wy k u).length < m → fX6_insert_L10 S (ii t) (ii k) m (ii on) (ii (rt u)) = some (ii (if em u = true then on else lw k u)) :=
  tr_ind (fun _ _ _ _ _ _ _ m on hm => by
    obtain ⟨m, rfl⟩ : ∃ k, m = k + 1 := ⟨m - 1, by omega⟩
    unfold fX6_insert_L10
    rw [rt_lf, ii_lm, if_pos rfl, if_pos em_lf]) (fun x l r' w1 w2 h1 h2 lo hi hb hlo hhi hk hp m on hm => by
    obtain ⟨a1, a2, a3, a4⟩ := bst_nd.mp hb
    obtain ⟨b1, b2, b3, b4⟩ := rp_nd.mp hp
    obtain ⟨m, rfl⟩ : ∃ k, m = k + 1 := ⟨m - 1, by omega⟩
    rw [ks_nd] at hk
    have hx : k ≠ x := fun h => hk (by simp [h])
    have kl : k ∉ ks l := fun h => hk (by simp [h])
    have kr : k ∉ ks r' := fun h => hk (by simp [h])
    rw [wy_nd, if_neg hx, List.length_cons] at hm
    unfold fX6_insert_L10
    rw [rt_nd, if_neg (em_nn _ _ _), lw_nd w1 w2 hx]
    simp (disch := omega) only [ii_l0, ii_l1, ii_l2, ii_l40, ii_l100, ii_neg, ii_le, cv_lt_eq, ix]
    rw [if_neg (i_ne (by omega) (by omega) (by omega) (by omega) (by omega))]
    have g := ig ht (k := x) (by omega) (by omega)
    by_cases q : k < x
    · rw [if_pos q] at hm
      rw [if_neg (by omega), cv_gd_pos g, ar_l ha ht (by omega) (by omega), b1, cv_bd_some, if_pos q]
      exact h1 lo x a3 hlo (by omega) kl b3 m x (by omega)
    · rw [if_neg q] at hm
      rw [if_pos (by omega), cv_gd_pos g, ar_r ha ht (by omega) (by omega), b2, cv_bd_some, if_neg q]
      exact h2 x hi a4 (by omega) hhi kr b4 m x (by omega))
theorem insert6 {S : SX6} {t : Int} {v : Tr} (h : rc S t v) (ht : t = 0 ∨ t = 1) {k : Int} (k0 : 0 ≤ k) (k1 : k < 100) (hk : k ∉ ks v) (hz : sz v ≤ 39) {m d c : Int} (hn : nm S t m d c) (hm : 0 ≤ m ∧ m ≤ 40) :
    ∃ S', fX6_insert S (ii t) (ii k) = some S' ∧ rc S' t (ins k v) ∧ nm S' t (max m (sz v + 1)) d c ∧ hi_ t S S' ∧ gX6_credit S' = gX6_credit S ∧ gX6_lowest S' = gX6_lowest S := by
  have h' := h
  obtain ⟨w, hb, hz', L, R, U, H, ha, hp, hu, hh⟩ := h
  have s0 := sz_nonneg v w
  have hw := rc_wy h' k
  have hL := insert_L ha ht k0 k1 v w (-1) 100 hb (by omega) (by omega) hk hp 256 (-1) (by omega)
  obtain ⟨p, hp_⟩ : ∃ p, p = lw k v := ⟨_, rfl⟩
  have pe : (if em v = true then -1 else lw k v) = p := by
    by_cases e : em v = true
    · rw [if_pos e, hp_, em_eq w e]; rfl
    · rw [if_neg e, hp_]
  rw [pe] at hL
  have p1 : em v = true → p = -1 := fun e => by rw [hp_, em_eq w e]; rfl
  have p2 : ¬ em v = true → p ∈ ks v := fun e => by rw [hp_]; exact lw_ks w (em_ne w e)
  have pb : -1 ≤ p ∧ p < 100 := by
    by_cases e : em v = true
    · have := p1 e; omega
    · have := rc_in h' (p2 e); omega
  have pm : p ≠ -1 → p ∈ ks v ∧ ¬ em v = true := fun z => by
    by_cases e : em v = true
    · exact absurd (p1 e) z
    · exact ⟨p2 e, e⟩
  have pk : p ≠ k := fun z => by
    have := pm (by omega)
    exact hk (by rw [← z]; exact this.1)
  obtain ⟨S1, hS1⟩ : ∃ S1, S1 = sX6_left S (upd (gX6_left S) (ii (100 * t + k)).toNatClampNeg (ii (-1))) := ⟨_, rfl⟩
  obtain ⟨S2, hS2⟩ : ∃ S2, S2 = sX6_right S1 (upd (gX6_right S1) (ii (100 * t + k)).toNatClampNeg (ii (-1))) := ⟨_, rfl⟩
  obtain ⟨S3, hS3⟩ : ∃ S3, S3 = sX6_there S2 (upd (gX6_there S2) (ii (100 * t + k)).toNatClampNeg (ii 1)) := ⟨_, rfl⟩
  have a3 : ar S3 t (fu L k (-1)) (fu R k (-1)) U (fu H k 1) (rt v) (sz v) := by
    rw [hS3]
    refine w_h ?_ ht k0 k1 (by omega) (by omega)
    rw [hS2]
    refine w_r ?_ ht k0 k1 (by omega) (by omega)
    rw [hS1]
    exact w_l ha ht k0 k1 (by omega) (by omega)
  have l3 : lo t S S3 := by
    refine lo_trans (B := S2) (lo_trans (B := S1) ?_ ?_) ?_
    · rw [hS1]; exact l_l S k0 k1 (by omega) (by omega)
    · rw [hS2]; exact l_r S1 k0 k1 (by omega) (by omega)
    · rw [hS3]; exact l_h S2 k0 k1 (by omega) (by omega)
  have gk := ig ht k0 k1
  have step : ∃ S4 L4 R4, (if ii p = ii (-1) then (if ii p = ii (-1) then some S3 else cv_gd (0 ≤ (ii (100 * t + p)).toInt ∧ (ii (100 * t + p)).toInt < 200) (some (sX6_right S3 (upd (gX6_right S3) (ii (100 * t + p)).toNatClampNeg (ii k))))) else if ii p ≤ ii k then (if ii p = ii (-1) then some S3 else cv_gd (0 ≤ (ii (100 * t + p)).toInt ∧ (ii (100 * t + p)).toInt < 200) (some (sX6_right S3 (upd (gX6_right S3) (ii (100 * t + p)).toNatClampNeg (ii k))))) else cv_gd (0 ≤ (ii (100 * t + p)).toInt ∧ (ii (100 * t + p)).toInt < 200) (some (sX6_left S3 (upd (gX6_left S3) (ii (100 * t + p)).toNatClampNeg (ii k))))) = some S4 ∧ lo t S3 S4 ∧ ar S4 t L4 R4 U (fu H k 1) (rt v) (sz v) ∧ (∀ j, 0 ≤ j → L4 j = if j = p ∧ k < j then k else fu L k (-1) j) ∧ (∀ j, 0 ≤ j → R4 j = if j = p ∧ j < k then k else fu R k (-1) j) := by
    by_cases e : p = -1
    · rw [if_pos (by rw [e]), if_pos (by rw [e])]
      exact ⟨S3, _, _, rfl, lo_refl t S3, a3, fun j j0 => by rw [if_neg (by omega)], fun j j0 => by rw [if_neg (by omega)]⟩
    · have gp := ig ht (k := p) (by omega) pb.2
      rw [if_neg (i_ne (by omega) (by omega) (by omega) (by omega) e)]
      by_cases q : p ≤ k
      · rw [if_pos ((ii_le (by omega) (by omega) (by omega) (by omega)).mpr q), if_neg (i_ne (by omega) (by omega) (by omega) (by omega) e), cv_gd_pos gp]
        refine ⟨_, _, _, rfl, l_r S3 (by omega) pb.2 (by omega) k1, w_r a3 ht (by omega) pb.2 (by omega) k1, fun j j0 => by rw [if_neg (by omega)], fun j j0 => ?_⟩
        by_cases z : j = p
        · rw [fu_p _ z, if_pos ⟨z, by omega⟩]
        · rw [fu_n _ z, if_neg (fun y => z y.1)]
      · rw [if_neg (fun z => q ((ii_le (by omega) (by omega) (by omega) (by omega)).mp z)), cv_gd_pos gp]
        refine ⟨_, _, _, rfl, l_l S3 (by omega) pb.2 (by omega) k1, w_l a3 ht (by omega) pb.2 (by omega) k1, fun j j0 => ?_, fun j j0 => by rw [if_neg (by omega)]⟩
        by_cases z : j = p
        · rw [fu_p _ z, if_pos ⟨z, by omega⟩]
        · rw [fu_n _ z, if_neg (fun y => z y.1)]
  obtain ⟨S4, L4, R4, s1, s2, s3, s4, s5⟩ := step
  obtain ⟨S5, e1, e2, e3⟩ := hang6 s3 ht (k := k) (p := p) (by omega) k1 pb.1 pb.2
  rw [if_neg (by omega)] at e3
  obtain ⟨S6, hS6⟩ : ∃ S6, S6 = sX6_many S5 (upd (gX6_many S5) (ii t).toNatClampNeg (ii (sz v + 1))) := ⟨_, rfl⟩
  have a6 : ar S6 t L4 R4 (fu U k p) (fu H k 1) (if p = -1 then k else rt v) (sz v + 1) := by rw [hS6]; exact w_n e3 ht (by omega) (by omega)
  have l6 : lo t S S6 := lo_trans l3 (lo_trans s2 (lo_trans e2 (by rw [hS6]; exact l_n S5 (by omega) (by omega))))
  have n6 := nm_ou l6.1 hn
  obtain ⟨S7, hS7⟩ : ∃ S7, S7 = sX6_most S6 (upd (gX6_most S6) (ii t).toNatClampNeg (ii (max m (sz v + 1)))) := ⟨_, rfl⟩
  have gt := ig2 ht
  refine ⟨S7, ?_, ?_, ?_, ?_, ?_, ?_⟩
  · unfold fX6_insert
    simp only [ii_l0, ii_l1, ii_l2, ii_l40, ii_l100, ii_neg, ix, cv_lt_eq]
    rw [cv_gd_pos gt, ar_ro ha ht, cv_bd_eq hL, cv_gd_pos gk, cv_gd_pos gk, cv_gd_pos gk]
    simp only [ix]
    rw [← hS1, ← hS2, ← hS3, cv_bd_eq s1, cv_bd_eq e1, cv_gd_pos gt, cv_gd_pos gt, ar_n e3 ht, ii_add, ← hS6, cv_gd_pos gt, cv_gd_pos gt, ar_n a6 ht, n6.1]
    simp (disch := omega) only [ii_le]
    by_cases q : sz v + 1 ≤ m
    · rw [if_pos q, cv_gd_pos gt, cv_gd_pos gt, hS7, show max m (sz v + 1) = m by omega]
    · rw [if_neg q, cv_gd_pos gt, cv_gd_pos gt, hS7, show max m (sz v + 1) = sz v + 1 by omega]
  · refine ⟨ins_wf k v w, ins_bst k v w _ _ hb (by omega) k1 hk, by rw [ins_sz k v w]; omega, L4, R4, fu U k p, fu H k 1, ?_, ?_, ?_, ?_⟩
    · rw [hS7]
      refine ar_ext (S := S6) a6 (fun _ _ _ => rfl) (fun _ _ _ => rfl) (fun _ _ _ => rfl) (fun _ _ _ => rfl) ?_ (by rw [ins_sz k v w])
      rw [ins_rt k w]
      by_cases e : em v = true
      · rw [if_pos (p1 e), if_pos e]
      · have := rc_in h' (p2 e)
        rw [if_neg (by omega), if_neg e]
    · refine ins_rp (L := L) (R := R) k v w _ _ hb hk hp ?_ ?_ (fun j hj => ?_)
      · rw [s4 k k0, if_neg (by omega), fu_p _ rfl]
      · rw [s5 k k0, if_neg (by omega), fu_p _ rfl]
      · have j0 := rc_in h' hj
        have : ¬ j = k := fun z => hk (by rw [← z]; exact hj)
        rw [s4 j j0.1, s5 j j0.1, fu_n _ this, fu_n _ this, hp_]
        exact ⟨rfl, rfl⟩
    · refine ins_ra (U := U) k v w (-1) hk hu (by rw [fu_p _ rfl, pe]) (fun j hj => fu_n _ (fun z => hk (by rw [← z]; exact hj)))
    · intro j j0 j1
      by_cases e : j = k
      · rw [fu_p _ e, if_pos ((ins_ks k j v w).mpr (Or.inl e))]
      · rw [fu_n _ e, hh j j0 j1]
        by_cases z : j ∈ ks v
        · rw [if_pos z, if_pos ((ins_ks k j v w).mpr (Or.inr z))]
        · rw [if_neg z, if_neg (fun y => ((ins_ks k j v w).mp y).elim e z)]
  · exact ⟨by rw [hS7]; exact upd_1 _ _ _, by rw [hS7]; exact n6.2.1, by rw [hS7]; exact n6.2.2⟩
  · refine hi_trans (lo_hi l6) ⟨by rw [hS7]; rfl, fun e => ⟨by rw [hS7]; exact zo_refl S6, ?_, by rw [hS7]; rfl, by rw [hS7]; rfl, by rw [hS7]; rfl, by rw [hS7]; rfl⟩⟩
    rw [hS7]; exact upd_10 e _ _
  · rw [hS7]; exact (ou_credit l6.1 : gX6_credit S6 = gX6_credit S)
  · rw [hS7]; exact (ou_lowest l6.1 : gX6_lowest S6 = gX6_lowest S)
theorem at_at (x y : Int) : ∀ v : Tr, tr_wf v → ∀ lo hi : Int, bst lo hi v → y ∈ ks (at_ x v) → at_ y (at_ x v) = at_ y v := tr_ind (fun _ _ _ h => by rw [at_lf, ks_lf] at h; cases h) (fun z l r w1 w2 h1 h2 lo hi hb hy => by
  obtain ⟨a1, a2, a3, a4⟩ := bst_nd.mp hb
  rw [at_nd] at hy ⊢
  by_cases e : x = z
  · rw [if_pos e]
  · rw [if_neg e] at hy ⊢
    by_cases g : x < z
    · rw [if_pos g] at hy ⊢
      have := bst_mem l w1 lo z a3 y (at_sub x y l w1 hy)
      rw [h1 lo z a3 hy, at_nd, if_neg (by omega), if_pos (by omega)]
    · rw [if_neg g] at hy ⊢
      have := bst_mem r w2 z hi a4 y (at_sub x y r w2 hy)
      rw [h2 z hi a4 hy, at_nd, if_neg (by omega), if_neg (by omega)])
theorem at_rp {L R : Int → Int} (x : Int) : ∀ v : Tr, tr_wf v → rp L R v → rp L R (at_ x v) := tr_ind (fun _ => trivial) (fun z l r w1 w2 h1 h2 hp => by
  obtain ⟨b1, b2, b3, b4⟩ := rp_nd.mp hp
  rw [at_nd]
  by_cases e : x = z
  · rw [if_pos e]; exact hp
  · rw [if_neg e]
    by_cases g : x < z
    · rw [if_pos g]; exact h1 b3
    · rw [if_neg g]; exact h2 b4)
theorem at_ra {U : Int → Int} (x : Int) : ∀ v : Tr, tr_wf v → ∀ lo hi p : Int, bst lo hi v → x ∈ ks v → ra U p v → ra U (pa x p v) (at_ x v) := tr_ind (fun _ _ _ _ h => by rw [ks_lf] at h; cases h) (fun z l r w1 w2 h1 h2 lo hi p hb hx ha => by
  obtain ⟨a1, a2, a3, a4⟩ := bst_nd.mp hb
  obtain ⟨c1, c2, c3⟩ := ra_nd.mp ha
  rw [at_nd, pa_nd]
  by_cases e : x = z
  · rw [if_pos e, if_pos e]; exact ha
  · rw [if_neg e, if_neg e]
    rcases side (t := lf) w1 w2 hb hx e with ⟨g, q⟩ | ⟨g, q⟩
    · rw [if_pos g, if_pos g]; exact h1 lo z z a3 q c2
    · rw [if_neg g, if_neg g]; exact h2 z hi z a4 q c3)
/-- a side of a part is a part -/
theorem kid {v : Tr} (w : tr_wf v) {lo hi : Int} (hb : bst lo hi v) {x : Int} {l r : Tr} (e : at_ x v = nd x l r) (hx : x ∈ ks v) (wl : tr_wf l) (wr : tr_wf r) : (l = lf ∨ (rt l ∈ ks v ∧ at_ (rt l) v = l)) ∧ (r = lf ∨ (rt r ∈ ks v ∧ at_ (rt r) v = r)) := by
  obtain ⟨c1, -⟩ := at_iv x v w lo hi hb hx
  rw [e] at c1
  obtain ⟨a1, a2, a3, a4⟩ := bst_nd.mp c1
  have self : ∀ u : Tr, tr_wf u → u ≠ lf → at_ (rt u) u = u := fun u wu hu => by
    rcases tr_cases wu with z | ⟨k, a, b, z, _, _⟩
    · exact absurd z hu
    · rw [z, rt_nd, at_nd, if_pos rfl]
  constructor
  · by_cases z : em l = true
    · exact Or.inl (em_eq wl z)
    · have m := rt_mem wl (em_ne wl z)
      have mx : rt l ∈ ks (at_ x v) := by rw [e, ks_nd]; simp [m]
      have q := bst_mem l wl _ _ a3 _ m
      refine Or.inr ⟨at_sub x _ v w mx, ?_⟩
      rw [← at_at x (rt l) v w lo hi hb mx, e, at_nd, if_neg (by omega), if_pos q.2]
      exact self l wl (em_ne wl z)
  · by_cases z : em r = true
    · exact Or.inl (em_eq wr z)
    · have m := rt_mem wr (em_ne wr z)
      have mx : rt r ∈ ks (at_ x v) := by rw [e, ks_nd]; simp [m]
      have q := bst_mem r wr _ _ a4 _ m
      refine Or.inr ⟨at_sub x _ v w mx, ?_⟩
      rw [← at_at x (rt r) v w lo hi hb mx, e, at_nd, if_neg (by omega), if_neg (by omega)]
      exact self r wr (em_ne wr z)
/-- ISLOPSIDED -/
theorem lop6 {S : SX6} {t : Int} {v : Tr} (h : rc S t v) (ht : t = 0 ∨ t = 1) {a b : Int} (hab : ab S t a b) (hr : rat a b) {x : Int} (hx : x ∈ ks v) {l r : Tr} (e : at_ x v = nd x l r) (wl : tr_wf l) (wr : tr_wf r) :
    fX6_isLopsided S (ii t) (ii x) = some (if a * (sz l + sz r + 1) < b * max (sz l) (sz r) then ii 1 else ii 0) := by
  have h' := h
  have x0 := rc_in h hx
  obtain ⟨w, hb, hz, L, R, U, H, ha, hp, hu, hh⟩ := h
  have hr' : 2 ≤ a ∧ a ≤ 4 ∧ 3 ≤ b ∧ b ≤ 5 := by unfold rat at hr; omega
  have p1 := at_rp (L := L) (R := R) x v w hp
  rw [e] at p1
  obtain ⟨q1, q2, -, -⟩ := rp_nd.mp p1
  obtain ⟨kl, kr⟩ := kid w hb e hx wl wr
  have s1 := sz_nonneg l wl
  have s2 := sz_nonneg r wr
  have s3 := at_le x v w
  rw [e, sz_nd] at s3
  have gx := ig ht x0.1 x0.2
  have z1 : a * (sz l + sz r + 1) ≤ 5 * 41 := Int.mul_le_mul (by omega) (by omega) (by omega) (by omega)
  have z2 : 0 ≤ a * (sz l + sz r + 1) := Int.mul_nonneg (by omega) (by omega)
  have z3 : b * sz l ≤ 5 * 41 := Int.mul_le_mul (by omega) (by omega) (by omega) (by omega)
  have z4 : 0 ≤ b * sz l := Int.mul_nonneg (by omega) (by omega)
  have z5 : b * sz r ≤ 5 * 41 := Int.mul_le_mul (by omega) (by omega) (by omega) (by omega)
  have z6 : 0 ≤ b * sz r := Int.mul_nonneg (by omega) (by omega)
  have z7 : b * max (sz l) (sz r) = max (b * sz l) (b * sz r) := by
    rcases Int.le_total (sz l) (sz r) with y | y
    · have : b * sz l ≤ b * sz r := Int.mul_le_mul_of_nonneg_left y (by omega)
      rw [show max (sz l) (sz r) = sz r by omega]; omega
    · have : b * sz r ≤ b * sz l := Int.mul_le_mul_of_nonneg_left y (by omega)
      rw [show max (sz l) (sz r) = sz l by omega]; omega
  unfold fX6_isLopsided
  simp only [ii_l0, ii_l1, ii_l2, ii_l40, ii_l100, ii_neg, ix, cv_lt_eq]
  rw [cv_bd_eq hab.1, cv_bd_eq (size6 h' ht hx), e, sz_nd, cv_bd_eq hab.2, cv_gd_pos gx, ar_l ha ht x0.1 x0.2, q1, cv_bd_eq (size6r h' ht kl), cv_bd_eq hab.2, cv_gd_pos gx, ar_r ha ht x0.1 x0.2, q2, cv_bd_eq (size6r h' ht kr)]
  simp (disch := omega) only [ii_mul, ii_lt, ii_le]
  rw [z7]
  by_cases y : a * (sz l + sz r + 1) < b * sz l
  · rw [if_pos y, if_pos (by omega)]
  · rw [if_neg y]
    by_cases y2 : b * sz r ≤ a * (sz l + sz r + 1)
    · rw [if_pos y2, if_neg (by omega)]
    · rw [if_neg y2, if_pos (by omega)]
