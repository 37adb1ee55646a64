/-! the reference's trees: REMOVE, LEAVE -/
theorem rep6 {S : SX6} {t : Int} {L R U H : Int → Int} {r n : Int} (ha : ar S t L R U H r n) (ht : t = 0 ∨ t = 1) {x y p : Int} (x0 : 0 ≤ x) (x1 : x < 100) (y0 : -1 ≤ y) (y1 : y < 100) (up : U x = p) (p0 : -1 ≤ p) (p1 : p < 100) (pl : p ≠ -1 → -1 ≤ L p ∧ L p < 100) (hl : p ≠ -1 → (L p = x ↔ x < p)) (px : p ≠ x) :
    ∃ S1 L1 R1, fX6_replace S (ii t) (ii x) (ii y) = some S1 ∧ lo t S S1 ∧ ar S1 t L1 R1 (if y = -1 then U else fu U y p) H (if p = -1 then y else r) n ∧ (∀ j, 0 ≤ j → L1 j = if j = p ∧ x < j then y else L j) ∧ (∀ j, 0 ≤ j → R1 j = if j = p ∧ j < x then y else R j) := by
  obtain ⟨S3, e1, e2, e3⟩ := replace6 ha ht (x := x) (k := y) x0 x1 y0 y1 (by omega) (by omega) (by rw [up]; exact pl)
  rw [up] at e3
  refine ⟨S3, _, _, e1, e2, e3, fun j j0 => ?_, fun j j0 => ?_⟩
  · by_cases z : p = -1
    · rw [if_neg (fun y => y.1 z), if_neg (by omega)]
    · by_cases y : x < p
      · rw [if_pos ⟨z, (hl z).mpr y⟩]
        by_cases q : j = p
        · rw [fu_p _ q, if_pos ⟨q, by omega⟩]
        · rw [fu_n _ q, if_neg (fun o => q o.1)]
      · rw [if_neg (fun o => y ((hl z).mp o.2)), if_neg (by omega)]
  · by_cases z : p = -1
    · rw [if_neg (fun y => y.1 z), if_neg (by omega)]
    · by_cases y : x < p
      · rw [if_neg (fun o => o.2 ((hl z).mpr y)), if_neg (by omega)]
      · rw [if_pos ⟨z, fun o => y ((hl z).mp o)⟩]
        by_cases q : j = p
        · rw [fu_p _ q, if_pos ⟨q, by omega⟩]
        · rw [fu_n _ q, if_neg (fun o => q o.1)]
theorem up_facts {v : Tr} (w : tr_wf v) (hb : bst (-1) 100 v) {L R U : Int → Int} (hp : rp L R v) (hu : ra U (-1) v) {x p : Int} (hx : x ∈ ks v) (hpp : p = pa x (-1) v) :
    U x = p ∧ (-1 ≤ p ∧ p < 100) ∧ (p ≠ -1 → -1 ≤ L p ∧ L p < 100) ∧ (p ≠ -1 → (L p = x ↔ x < p)) ∧ p ≠ x ∧ (x = rt v → p = -1) ∧ (x ≠ rt v → p ∈ ks v) ∧ p ∉ ks (at_ x v) := by
  have up : U x = p := by rw [hpp]; exact ra_pa U x v w _ _ _ hb hx hu
  have pin := pa_in x v w (-1) 100 (-1) hb hx
  have pout := pa_out x v w (-1) 100 (-1) hb hx (fun z => by have := bst_mem v w _ _ hb _ z; omega)
  rw [← hpp] at pin pout
  have hin : ∀ j ∈ ks v, 0 ≤ j ∧ j < 100 := fun j hj => by have := bst_mem v w _ _ hb j hj; omega
  have pb : -1 ≤ p ∧ p < 100 := by
    by_cases z : x = rt v
    · have := pin.1 z; omega
    · have := hin _ (pin.2 z); omega
  have pne : p ≠ -1 → p ∈ ks v ∧ x ≠ rt v := fun z => by
    by_cases y : x = rt v
    · exact absurd (pin.1 y) z
    · exact ⟨pin.2 y, y⟩
  have plink : p ≠ -1 → (x < p → L p = x) ∧ (p < x → R p = x) ∧ x ≠ p := fun z => by
    have := pa_link (L := L) (R := R) x v w _ _ (-1) hb hx (pne z).2 hp
    rw [← hpp] at this
    exact this
  have plr : p ≠ -1 → (L p = -1 ∨ (L p ∈ ks v ∧ L p < p)) := fun z => (lr_b p v w _ _ hb (pne z).1 hp).1
  refine ⟨up, pb, fun z => ?_, fun z => ⟨fun y => ?_, (plink z).1⟩, fun z => pout (by rw [z]; exact at_self w hb hx), pin.1, pin.2, pout⟩
  · rcases plr z with y | y
    · omega
    · have := hin _ y.1; omega
  · have q := hin x hx
    rcases plr z with y' | y' <;> omega
theorem remove_L {S : SX6} {t : Int} {L R U H : Int → Int} {r n : Int} {u2 : Int32} (ha : ar S t L R U H r n) (ht : t = 0 ∨ t = 1) : ∀ u : Tr, tr_wf u → ∀ lo hi : Int, bst lo hi u → -1 ≤ lo → hi ≤ 100 → ¬ em u = true → rp L R u → ∀ m : Nat, (sp u).length < m → fX6_remove_L51 S (ii t) u2 m (ii (rt u)) = some (ii (mn u)) :=
  tr_ind (fun _ _ _ _ _ h => absurd em_lf h) (fun x l r' w1 w2 h1 h2 lo hi hb hlo hhi _ hp m hm => by
    obtain ⟨a1, a2, a3, a4⟩ := bst_nd.mp hb
    obtain ⟨b1, b2, b3, b4⟩ := rp_nd.mp hp
    obtain ⟨m, rfl⟩ : ∃ k, m = k + 1 := ⟨m - 1, by omega⟩
    have rl := rt_lt w1 a3 hlo (by omega)
    have g := ig ht (k := x) (by omega) (by omega)
    rw [sp_nd] at hm
    unfold fX6_remove_L51
    rw [rt_nd, mn_nd]
    simp only [ii_l0, ii_l1, ii_l2, ii_l40, ii_l100, ii_neg, cv_lt_eq, ix]
    rw [cv_gd_pos g, ar_l ha ht (by omega) (by omega), b1]
    by_cases e : em l = true
    · rw [if_pos (by rw [em_eq w1 e, rt_lf]), if_pos e]
    · rw [if_neg e, List.length_cons] at hm
      have q := bst_mem l w1 lo x a3 _ (rt_mem w1 (em_ne w1 e))
      rw [if_neg (i_ne (by omega) (by omega) (by omega) (by omega) (by omega)), cv_gd_pos g, if_neg e]
      exact h1 lo x a3 hlo (by omega) e b3 m (by omega))
theorem l_mn {L R : Int → Int} : ∀ t : Tr, tr_wf t → ¬ em t = true → rp L R t → L (mn t) = -1 := tr_ind (fun h => absurd em_lf h) (fun x l r w1 w2 h1 h2 _ hp => by
  obtain ⟨b1, b2, b3, b4⟩ := rp_nd.mp hp
  rw [mn_nd]
  by_cases e : em l = true
  · rw [if_pos e, b1, em_eq w1 e, rt_lf]
  · rw [if_neg e]; exact h1 e b3)
theorem u_mn {U : Int → Int} : ∀ t : Tr, tr_wf t → ∀ p : Int, ¬ em t = true → ra U p t → U (mn t) = ov p t := tr_ind (fun _ h => absurd em_lf h) (fun x l r w1 w2 h1 h2 p _ ha => by
  obtain ⟨b1, b2, b3⟩ := ra_nd.mp ha
  rw [mn_nd, ov_nd]
  by_cases e : em l = true
  · rw [if_pos e, if_pos e, b1]
  · rw [if_neg e, if_neg e]; exact h1 x e b2)
theorem remove6 {S : SX6} {t : Int} {v : Tr} (h : rc S t v) (ht : t = 0 ∨ t = 1) {k : Int} (hk : k ∈ ks v) : ∃ S', fX6_remove S (ii t) (ii k) = some S' ∧ rc S' t (dl k v) ∧ lo t S S' := by
  have h' := h
  have k0 := rc_in h hk
  obtain ⟨w, hb, hz, L, R, U, H, ha, hp, hu, hh⟩ := h
  have s0 := sz_nonneg v w
  have s1 := at_le k v w
  obtain ⟨l, r, e, wl, wr⟩ := at_some v w _ _ k hb hk
  obtain ⟨c1, c2, c3, c4, c5, c6⟩ := at_iv k v w (-1) 100 hb hk
  rw [e] at c1 s1
  rw [sz_nd] at s1
  obtain ⟨i1, i2, i3, i4⟩ := bst_nd.mp c1
  obtain ⟨lo_, hlo_⟩ : ∃ q, q = il k (-1) v := ⟨_, rfl⟩
  obtain ⟨hi', hhi_⟩ : ∃ q, q = ih_ k 100 v := ⟨_, rfl⟩
  rw [← hlo_] at c2 c4 i1 i3
  rw [← hhi_] at c3 c5 i2 i4
  have prp := at_rp (L := L) (R := R) k v w hp
  rw [e] at prp
  obtain ⟨q1, q2, q3, q4⟩ := rp_nd.mp prp
  obtain ⟨p, hpp⟩ : ∃ p, p = pa k (-1) v := ⟨_, rfl⟩
  obtain ⟨u1, u2, u3, u4, u5, u6, u7, u8⟩ := up_facts w hb hp hu hk hpp
  have pra := at_ra (U := U) k v w _ _ (-1) hb hk hu
  rw [e, ← hpp] at pra
  obtain ⟨r1, r2, r3⟩ := ra_nd.mp pra
  rw [e, ks_nd] at u8
  have sl0 := sz_nonneg l wl
  have sr0 := sz_nonneg r wr
  have inl : ∀ j ∈ ks l, 0 ≤ j ∧ j < k := fun j hj => by have := bst_mem l wl _ _ i3 j hj; omega
  have inr : ∀ j ∈ ks r, k < j ∧ j < 100 := fun j hj => by have := bst_mem r wr _ _ i4 j hj; omega
  have rl := rt_lt wl i3 c2 (by omega)
  have rr := rt_lt wr i4 (by omega) (by omega)
  have pl' : ∀ j ∈ ks l, j ≠ p := fun j hj z => u8 (by rw [← z]; simp [hj])
  have pr' : ∀ j ∈ ks r, j ≠ p := fun j hj z => u8 (by rw [← z]; simp [hj])
  obtain ⟨u, hu_⟩ : ∃ u, u = jn l r := ⟨_, rfl⟩
  have edl : dl k v = gr k u v := by unfold dl; rw [e, jo_nd, ← hu_]
  have gk := ig ht k0.1 k0.2
  have gt := ig2 ht
  have fin : ∀ (S1 : SX6) (L1 R1 U1 : Int → Int), ar S1 t L1 R1 U1 H (if p = -1 then rt u else rt v) (sz v) → lo t S S1 → rp L1 R1 u → ra U1 p u → (∀ j, 0 ≤ j → j ∈ ks v → j ∉ ks (at_ k v) → L1 j = (if j = p ∧ k < j then rt u else L j) ∧ R1 j = (if j = p ∧ j < k then rt u else R j) ∧ U1 j = U j) →
      ∃ S', (cv_gd (0 ≤ (ii (100 * t + k)).toInt ∧ (ii (100 * t + k)).toInt < 200) <| cv_gd (0 ≤ (ii t).toInt ∧ (ii t).toInt < 2) <| cv_gd (0 ≤ (ii t).toInt ∧ (ii t).toInt < 2) <| some (sX6_many (sX6_there S1 (upd (gX6_there S1) (ii (100 * t + k)).toNatClampNeg (ii 0))) (upd (gX6_many (sX6_there S1 (upd (gX6_there S1) (ii (100 * t + k)).toNatClampNeg (ii 0)))) (ii t).toNatClampNeg (gX6_many (sX6_there S1 (upd (gX6_there S1) (ii (100 * t + k)).toNatClampNeg (ii 0))) (ii t).toNatClampNeg - ii 1)))) = some S' ∧ rc S' t (dl k v) ∧ lo t S S' := by
    intro S1 L1 R1 U1 a1 l1 f1 f2 f3
    obtain ⟨S2, hS2⟩ : ∃ S2, S2 = sX6_there S1 (upd (gX6_there S1) (ii (100 * t + k)).toNatClampNeg (ii 0)) := ⟨_, rfl⟩
    have a2 : ar S2 t L1 R1 U1 (fu H k 0) (if p = -1 then rt u else rt v) (sz v) := by rw [hS2]; exact w_h a1 ht k0.1 k0.2 (by omega) (by omega)
    have l2 : lo t S S2 := lo_trans l1 (by rw [hS2]; exact l_h S1 k0.1 k0.2 (by omega) (by omega))
    rw [← hS2, ar_n a2 ht, ii_sub, cv_gd_pos gk, cv_gd_pos gt, cv_gd_pos gt]
    have dsz := dl_sz w hb hk
    have dsz1 := sz_nonneg _ (dl_wf w hb hk)
    refine ⟨_, rfl, ⟨dl_wf w hb hk, dl_bst w hb hk, by omega, L1, R1, U1, fu H k 0, ?_, ?_, ?_, ?_⟩, lo_trans l2 (l_n S2 (by omega) (by omega))⟩
    · refine ar_ext (w_n a2 ht (v := sz v - 1) (by omega) (by omega)) (fun _ _ _ => rfl) (fun _ _ _ => rfl) (fun _ _ _ => rfl) (fun _ _ _ => rfl) ?_ (by omega)
      have hne : v ≠ lf := fun z => by rw [z, ks_lf] at hk; cases hk
      rw [edl, gr_rt k u w hne]
      by_cases z : k = rt v
      · rw [if_pos (u6 z), if_pos z]
      · have := rc_in h' (u7 z)
        rw [if_neg (by omega), if_neg z]
    · rw [edl]
      refine gr_rp (L := L) (R := R) k f1 v w _ _ (-1) hb hk hp (fun j hj hn' => ?_)
      have F := f3 j (rc_in h' hj).1 hj hn'
      rw [← hpp]
      exact ⟨F.1, F.2.1⟩
    · rw [edl]
      exact gr_ra (U := U) k v w _ _ (-1) hb hk hu (by rw [← hpp]; exact f2) (fun j hj hn' => (f3 j (rc_in h' hj).1 hj hn').2.2)
    · intro j j0 j1
      by_cases z : j = k
      · rw [fu_p _ z, if_neg (fun y => ((dl_ks w hb hk j).mp y).2 z)]
      · rw [fu_n _ z, hh j j0 j1]
        by_cases y : j ∈ ks v
        · rw [if_pos y, if_pos ((dl_ks w hb hk j).mpr ⟨y, z⟩)]
        · rw [if_neg y, if_neg (fun o => y ((dl_ks w hb hk j).mp o).1)]
  -- one side at most
  have one : ∀ y, y = rt u → -1 ≤ y → y < 100 → rp L R u → ra U k u → tr_wf u → bst lo_ hi' u → (∀ j ∈ ks u, j ≠ p ∧ 0 ≤ j) → (∀ j, j ∈ ks v → j ∉ ks (at_ k v) → j ∉ ks u) → ∃ S1 L1 R1 U1, fX6_replace S (ii t) (ii k) (ii y) = some S1 ∧ ar S1 t L1 R1 U1 H (if p = -1 then rt u else rt v) (sz v) ∧ lo t S S1 ∧ rp L1 R1 u ∧ ra U1 p u ∧ (∀ j, 0 ≤ j → j ∈ ks v → j ∉ ks (at_ k v) → L1 j = (if j = p ∧ k < j then rt u else L j) ∧ R1 j = (if j = p ∧ j < k then rt u else R j) ∧ U1 j = U j) := by
    intro y hy y0 y1 ur ua wu bu un uo
    obtain ⟨S1, L1, R1, g1, g2, g3, g4, g5⟩ := rep6 ha ht (x := k) (y := y) k0.1 k0.2 y0 y1 u1 u2.1 u2.2 u3 u4 u5
    rw [hy] at g3 g4 g5
    have hru : ¬ em u = true → rt u ∈ ks u := fun z => rt_mem wu (em_ne wu z)
    refine ⟨S1, L1, R1, _, g1, g3, g2, ?_, ?_, fun j j0 jv ja => ⟨g4 j j0, g5 j j0, ?_⟩⟩
    · refine rp_frame u wu (fun j hj => ?_) ur
      have := un j hj
      rw [g4 j this.2, g5 j this.2, if_neg (fun z => this.1 z.1), if_neg (fun z => this.1 z.1)]
      exact ⟨rfl, rfl⟩
    · refine ra_re wu bu ua (fun z => ?_) (fun j hj hn => ?_)
      · have := un _ (hru z)
        rw [if_neg (by omega), fu_p _ rfl]
      · by_cases z : rt u = -1
        · rw [if_pos z]
        · rw [if_neg z, fu_n _ hn]
    · by_cases z : rt u = -1
      · rw [if_pos z]
      · rw [if_neg z, fu_n _ (fun o => uo j jv ja (by rw [o]; refine hru (fun q => z (by rw [em_eq wu q]; rfl))))]
  have kout : ∀ j, j ∈ ks v → j ∉ ks (at_ k v) → j ∉ ks l ∧ j ∉ ks r ∧ j ≠ k := fun j _ ja => by
    rw [e, ks_nd] at ja
    exact ⟨fun z => ja (by simp [z]), fun z => ja (by simp [z]), fun z => ja (by simp [z])⟩
  by_cases el : em l = true
  · have eu : u = r := by rw [hu_]; unfold jn; rw [if_pos el]
    have lk : L k = -1 := by rw [q1, em_eq wl el, rt_lf]
    obtain ⟨S1, L1, R1, U1, g1, g2, g3, g4, g5, g6⟩ := one (rt r) (by rw [eu]) (by omega) (by omega) (by rw [eu]; exact q4) (by rw [eu]; exact r3) (by rw [eu]; exact wr) (by rw [eu]; exact bst_wide r wr _ _ _ _ (by omega) (by omega) i4) (fun j hj => by rw [eu] at hj; exact ⟨pr' j hj, by have := inr j hj; omega⟩) (fun j a b => by rw [eu]; exact (kout j a b).2.1)
    obtain ⟨S', f1, f2, f3⟩ := fin S1 L1 R1 U1 g2 g3 g4 g5 g6
    refine ⟨S', ?_, f2, f3⟩
    unfold fX6_remove
    simp only [ii_l0, ii_l1, ii_l2, ii_l40, ii_l100, ii_neg, ix, cv_lt_eq]
    have hun : fX6_unhang S (ii t) (ii k) = some S1 := by
      unfold fX6_unhang
      simp only [ii_l0, ii_l1, ii_l2, ii_l40, ii_l100, ii_neg, ix, cv_lt_eq]
      rw [cv_gd_pos gk, ar_l ha ht k0.1 k0.2, lk, if_pos rfl, cv_gd_pos gk, ar_r ha ht k0.1 k0.2, q2, cv_bd_some, cv_bd_eq g1]
    rw [cv_gd_pos gk, ar_l ha ht k0.1 k0.2, lk, if_pos rfl, cv_bd_eq hun, cv_bd_some]
    exact f1
  · have lm := rt_mem wl (em_ne wl el)
    have lin := inl _ lm
    have lk : ¬ ii (L k) = ii (-1) := by rw [q1]; exact i_ne (by omega) (by omega) (by omega) (by omega) (by omega)
    by_cases er : em r = true
    · have eu : u = l := by rw [hu_]; unfold jn; rw [if_neg el, if_pos er]
      have rk : R k = -1 := by rw [q2, em_eq wr er, rt_lf]
      obtain ⟨S1, L1, R1, U1, g1, g2, g3, g4, g5, g6⟩ := one (rt l) (by rw [eu]) (by omega) (by omega) (by rw [eu]; exact q3) (by rw [eu]; exact r2) (by rw [eu]; exact wl) (by rw [eu]; exact bst_wide l wl _ _ _ _ (by omega) (by omega) i3) (fun j hj => by rw [eu] at hj; exact ⟨pl' j hj, (inl j hj).1⟩) (fun j a b => by rw [eu]; exact (kout j a b).1)
      obtain ⟨S', f1, f2, f3⟩ := fin S1 L1 R1 U1 g2 g3 g4 g5 g6
      refine ⟨S', ?_, f2, f3⟩
      unfold fX6_remove
      simp only [ii_l0, ii_l1, ii_l2, ii_l40, ii_l100, ii_neg, ix, cv_lt_eq]
      have hun : fX6_unhang S (ii t) (ii k) = some S1 := by
        unfold fX6_unhang
        simp only [ii_l0, ii_l1, ii_l2, ii_l40, ii_l100, ii_neg, ix, cv_lt_eq]
        rw [cv_gd_pos gk, ar_l ha ht k0.1 k0.2, if_neg lk, cv_gd_pos gk, q1, cv_bd_some, cv_bd_eq g1]
      rw [cv_gd_pos gk, ar_l ha ht k0.1 k0.2, if_neg lk, cv_gd_pos gk, ar_r ha ht k0.1 k0.2, rk, if_pos rfl, cv_bd_eq hun, cv_bd_some]
      exact f1
    · -- both sides
      have rm := rt_mem wr (em_ne wr er)
      have rin := inr _ rm
      have rk : ¬ ii (R k) = ii (-1) := by rw [q2]; exact i_ne (by omega) (by omega) (by omega) (by omega) (by omega)
      obtain ⟨x, hx⟩ : ∃ x, x = mn r := ⟨_, rfl⟩
      have xr : x ∈ ks r := by rw [hx]; exact mn_mem r wr er
      have x0 := inr x xr
      have xv : x ∈ ks v := at_sub k x v w (by rw [e, ks_nd]; simp [xr])
      have eu : u = nd x l (dm r) := by rw [hu_]; unfold jn; rw [if_neg el, if_neg er, hx]
      have rtu : rt u = x := by rw [eu, rt_nd]
      have spl := sp_len r wr
      have hL := remove_L (u2 := ii k) ha ht r wr k hi' i4 (by omega) (by omega) er q4 256 (by omega)
      rw [← hx] at hL
      have lx : L x = -1 := by rw [hx]; exact l_mn r wr er q4
      obtain ⟨q, hq⟩ : ∃ q, q = pa x (-1) v := ⟨_, rfl⟩
      obtain ⟨v1, v2, v3, v4, v5, v6, v7, v8⟩ := up_facts w hb hp hu xv hq
      have qo : q = ov k r := by rw [← v1, hx]; exact u_mn r wr k er r3
      have kr : k ∉ ks r := fun z => by have := inr k z; omega
      have qgt := ov_gt r wr k hi' k i4 er
      rw [← qo, ← hx] at qgt
      have osf := ov_self wr i4 er kr
      rw [← qo, ← hx] at osf
      have rmn := r_mn r wr er q4
      rw [← hx] at rmn
      have drt := dm_rt wr q4 i4 er
      rw [← hx] at drt
      have dks : ∀ j, j ∈ ks (dm r) → j ∈ ks r ∧ j ≠ x := fun j hj => by
        have := (dm_ks j r wr k hi' i4).mp hj
        rw [← hx] at this
        exact this
      have qb : 0 ≤ q ∧ q ≠ -1 := by
        rcases qgt with z | z
        · omega
        · have := inr _ z.1; omega
      have rxb : -1 ≤ R x ∧ R x < 100 := by
        rcases rmn with z | z
        · omega
        · have := inr _ z; omega
      have gx := ig ht (k := x) (by omega) x0.2
      obtain ⟨S1, L1, R1, g1, g2, g3, g4, g5⟩ := rep6 ha ht (x := x) (y := R x) (by omega) x0.2 rxb.1 rxb.2 v1 v2.1 v2.2 v3 v4 v5
      rw [if_neg qb.2] at g3
      obtain ⟨U1, hU1⟩ : ∃ U1, U1 = (if R x = -1 then U else fu U (R x) q) := ⟨_, rfl⟩
      rw [← hU1] at g3
      have U1e : ∀ j, 0 ≤ j → U1 j = if j = R x then q else U j := fun j j0 => by
        rw [hU1]
        by_cases z : R x = -1
        · rw [if_pos z, if_neg (by omega)]
        · rw [if_neg z]
          by_cases y : j = R x
          · rw [fu_p _ y, if_pos y]
          · rw [fu_n _ y, if_neg y]
      have l1k : L1 k = rt l := by
        rw [g4 k k0.1, q1, if_neg (fun z => by omega)]
      have r1k : R1 k = rt (dm r) := by
        rw [g5 k k0.1, q2, drt]
        by_cases z : q = k
        · rw [if_pos ⟨z.symm, by omega⟩, if_pos (osf.mp z)]
        · rw [if_neg (fun y => z y.1.symm), if_neg (fun y => z (osf.mpr y))]
      have drb : -1 ≤ rt (dm r) ∧ rt (dm r) < 100 := by
        rw [drt]
        by_cases z : rt r = x
        · rw [if_pos z]; exact rxb
        · rw [if_neg z]; omega
      obtain ⟨S2, hS2⟩ : ∃ S2, S2 = sX6_left S1 (upd (gX6_left S1) (ii (100 * t + x)).toNatClampNeg (ii (rt l))) := ⟨_, rfl⟩
      have a2 : ar S2 t (fu L1 x (rt l)) R1 U1 H (rt v) (sz v) := by rw [hS2]; exact w_l g3 ht (by omega) x0.2 (by omega) (by omega)
      obtain ⟨S3, hS3⟩ : ∃ S3, S3 = sX6_right S2 (upd (gX6_right S2) (ii (100 * t + x)).toNatClampNeg (ii (rt (dm r)))) := ⟨_, rfl⟩
      have a3 : ar S3 t (fu L1 x (rt l)) (fu R1 x (rt (dm r))) U1 H (rt v) (sz v) := by rw [hS3]; exact w_r a2 ht (by omega) x0.2 drb.1 drb.2
      have l3 : lo t S S3 := by
        refine lo_trans g2 (lo_trans (B := S2) ?_ ?_)
        · rw [hS2]; exact l_l S1 (by omega) x0.2 (by omega) (by omega)
        · rw [hS3]; exact l_r S2 (by omega) x0.2 drb.1 drb.2
      obtain ⟨S4, m1, m2, m3⟩ := hang6 a3 ht (k := rt l) (p := x) (by omega) (by omega) (by omega) x0.2
      rw [if_neg (by omega), if_neg (by omega)] at m3
      have step : ∃ S5 U5, (if ii (rt (dm r)) = ii (-1) then some S4 else cv_gd (0 ≤ (ii (100 * t + x)).toInt ∧ (ii (100 * t + x)).toInt < 200) (cv_bd (fX6_hang S4 (ii t) (ii (rt (dm r))) (ii x)) fun r32 => some r32)) = some S5 ∧ lo t S4 S5 ∧ ar S5 t (fu L1 x (rt l)) (fu R1 x (rt (dm r))) U5 H (rt v) (sz v) ∧ ∀ j, 0 ≤ j → U5 j = if j = rt (dm r) then x else fu U1 (rt l) x j := by
        by_cases z : rt (dm r) = -1
        · rw [if_pos (by rw [z])]
          exact ⟨S4, _, rfl, lo_refl t S4, m3, fun j j0 => by rw [if_neg (by omega)]⟩
        · rw [if_neg (i_ne (by omega) (by omega) (by omega) (by omega) z), cv_gd_pos gx]
          obtain ⟨S5, n1, n2, n3⟩ := hang6 m3 ht (k := rt (dm r)) (p := x) drb.1 drb.2 (by omega) x0.2
          rw [if_neg z, if_neg (by omega)] at n3
          refine ⟨S5, _, cv_bd_eq n1 _, n2, n3, fun j j0 => ?_⟩
          by_cases y : j = rt (dm r)
          · rw [fu_p _ y, if_pos y]
          · rw [fu_n _ y, if_neg y]
      obtain ⟨S5, U5, o1, o2, o3, o4⟩ := step
      have dmr : ¬ em (dm r) = true → rt (dm r) ∈ ks r ∧ rt (dm r) ≠ x := fun z => dks _ (rt_mem (dm_wf r wr) (em_ne (dm_wf r wr) z))
      have dmn : ∀ j, 0 ≤ j → j ∉ ks r → j ≠ rt (dm r) := fun j j0 jr z => by
        by_cases y : em (dm r) = true
        · rw [em_eq (dm_wf r wr) y, rt_lf] at z; omega
        · exact jr (by rw [z]; exact (dmr y).1)
      have rxn : ∀ j, 0 ≤ j → j ∉ ks r → j ≠ R x := fun j j0 jr z => by
        rcases rmn with y | y
        · omega
        · exact jr (by rw [z]; exact y)
      have xl : x ∉ ks l := fun z => by have := inl x z; omega
      have kl : k ∉ ks l := fun z => by have := inl k z; omega
      have u5k : U5 k = p := by
        rw [o4 k k0.1, if_neg (dmn k k0.1 kr), fu_n _ (by omega), U1e k k0.1, if_neg (rxn k k0.1 kr), u1]
      have px : p ≠ x := fun z => u8 (by rw [z]; simp [xr])
      have pq : p ≠ q := fun z => by
        rcases qgt with y | y
        · exact u5 (by omega)
        · exact u8 (by rw [z]; simp [y.1])
      have lp : p ≠ -1 → fu L1 x (rt l) p = L p := fun z => by
        rw [fu_n _ px, g4 p (by omega), if_neg (fun y => pq y.1)]
      obtain ⟨S6, L6, R6, t1, t2, t3, t4, t5⟩ := rep6 o3 ht (x := k) (y := x) k0.1 k0.2 (by omega) x0.2 u5k u2.1 u2.2 (fun z => by rw [lp z]; exact u3 z) (fun z => by rw [lp z]; exact u4 z) u5
      rw [if_neg (by omega)] at t3
      obtain ⟨S', f1, f2, f3⟩ := fin S6 L6 R6 (fu U5 x p) (by rw [rtu]; exact t3) (lo_trans l3 (lo_trans m2 (lo_trans o2 t2))) (by
        rw [eu]
        refine rp_nd.mpr ⟨?_, ?_, ?_, ?_⟩
        · rw [t4 x (by omega), if_neg (fun z => px z.1.symm), fu_p _ rfl]
        · rw [t5 x (by omega), if_neg (fun z => px z.1.symm), fu_p _ rfl]
        · refine rp_frame l wl (fun j hj => ?_) q3
          have j0 := inl j hj
          have jp := pl' j hj
          have jq : j ≠ q := fun z => by
            rcases qgt with y | y
            · omega
            · have := inr _ y.1; omega
          rw [t4 j j0.1, t5 j j0.1, if_neg (fun z => jp z.1), if_neg (fun z => jp z.1), fu_n _ (by omega), fu_n _ (by omega), g4 j j0.1, g5 j j0.1, if_neg (fun z => jq z.1), if_neg (fun z => jq z.1)]
          exact ⟨rfl, rfl⟩
        · refine dm_rp r wr k hi' k i4 er kr q4 (fun j hj hm => ?_)
          have j0 := inr j hj
          have jp := pr' j hj
          have jx := mn_le r wr k hi' i4 j hj
          rw [← hx] at hm jx
          rw [← hx, ← qo]
          rw [t4 j (by omega), t5 j (by omega), if_neg (show ¬ (j = p ∧ k < j) from fun z => jp z.1), if_neg (show ¬ (j = p ∧ j < k) from fun z => jp z.1), fu_n _ hm, fu_n _ hm, g4 j (by omega), g5 j (by omega), if_neg (show ¬ (j = q ∧ j < x) by omega)]
          refine ⟨?_, rfl⟩
          by_cases y : j = q
          · rw [if_pos y, if_pos ⟨y, by omega⟩]
          · rw [if_neg y, if_neg (fun z => y z.1)]) (by
        rw [eu]
        refine ra_nd.mpr ⟨fu_p _ rfl, ?_, ?_⟩
        · refine ra_re wl i3 r2 (fun _ => ?_) (fun j hj hn => ?_)
          · rw [fu_n _ (by omega), o4 _ (by omega), if_neg (dmn _ (by omega) (fun z => by have := inr _ z; omega)), fu_p _ rfl]
          · have j0 := inl j hj
            have jr : j ∉ ks r := fun z => by have := inr j z; omega
            rw [fu_n _ (by omega), o4 j j0.1, if_neg (dmn j j0.1 jr), fu_n _ hn, U1e j j0.1, if_neg (rxn j j0.1 jr)]
        · have ra1 : ra U1 k (dm r) := dm_ra r wr k hi' k i4 (by omega) er q4 r3 (fun j hj hm => by
            have j0 := inr j hj
            rw [← hx, ← qo, U1e j (by omega)])
          refine ra_re (dm_wf r wr) (dm_bst r wr k hi' i4 er) ra1 (fun z => ?_) (fun j hj hn => ?_)
          · have y := dmr z
            have y0 := inr _ y.1
            rw [fu_n _ y.2, o4 _ (by omega), if_pos rfl]
          · have y := dks j hj
            have y0 := inr _ y.1
            rw [fu_n _ y.2, o4 j (by omega), if_neg hn, fu_n _ (by omega)]) (fun j j0 jv ja => by
        obtain ⟨z1, z2, z3⟩ := kout j jv ja
        have jx : ¬ j = x := fun z => z2 (by rw [z]; exact xr)
        have jq : j ≠ q := fun z => by
          rcases qgt with y | y
          · omega
          · exact z2 (by rw [z]; exact y.1)
        have jl : ¬ j = rt l := fun z => z1 (by rw [z]; exact lm)
        rw [t4 j j0, t5 j j0, rtu, fu_n _ jx, fu_n _ jx, fu_n _ jx, g4 j j0, g5 j j0, if_neg (show ¬ (j = q ∧ x < j) from fun z => jq z.1), if_neg (show ¬ (j = q ∧ j < x) from fun z => jq z.1), o4 j j0, if_neg (dmn j j0 z2), fu_n _ jl, U1e j j0, if_neg (rxn j j0 z2)]
        exact ⟨rfl, rfl, rfl⟩)
      refine ⟨S', ?_, f2, f3⟩
      have hun : fX6_unhang S (ii t) (ii x) = some S1 := by
        unfold fX6_unhang
        simp only [ii_l0, ii_l1, ii_l2, ii_l40, ii_l100, ii_neg, ix, cv_lt_eq]
        rw [cv_gd_pos gx, ar_l ha ht (by omega) x0.2, lx, if_pos rfl, cv_gd_pos gx, ar_r ha ht (by omega) x0.2, cv_bd_some, cv_bd_eq g1]
      unfold fX6_remove
      simp only [ii_l0, ii_l1, ii_l2, ii_l40, ii_l100, ii_neg, ix, cv_lt_eq]
      rw [cv_gd_pos gk, ar_l ha ht k0.1 k0.2, if_neg lk, cv_gd_pos gk, ar_r ha ht k0.1 k0.2, if_neg rk, cv_gd_pos gk, q2, cv_bd_eq hL, cv_bd_eq hun, cv_gd_pos gk]
      simp only [ix]
      rw [cv_gd_pos gx, cv_gd_pos gk, cv_gd_pos gx, cv_gd_pos gx, ar_l g3 ht k0.1 k0.2, l1k, ← hS2, ar_r a2 ht k0.1 k0.2, r1k, ← hS3, ar_l a3 ht (by omega) x0.2, fu_p _ rfl, cv_bd_eq m1, cv_gd_pos gx, ar_r m3 ht (by omega) x0.2, fu_p _ rfl, cv_bd_eq o1, cv_bd_eq t1, cv_bd_some]
      exact f1
