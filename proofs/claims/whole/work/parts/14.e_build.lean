/-! the reference's trees: BUILD -/
theorem ra_pa (U : Int → Int) (x : Int) : ∀ v : Tr, tr_wf v → ∀ lo hi p : Int, bst lo hi v → x ∈ ks v → ra U p v → U x = pa x p v := tr_ind (fun _ _ _ _ h => by rw [ks_lf] at h; cases h) (fun y l r w1 w2 h1 h2 lo hi p hb hx ha => by
  obtain ⟨a1, a2, a3, a4⟩ := bst_nd.mp hb
  obtain ⟨c1, c2, c3⟩ := ra_nd.mp ha
  rw [pa_nd]
  by_cases e : x = y
  · rw [if_pos e, e, c1]
  · rw [if_neg e]
    rcases side (t := lf) w1 w2 hb hx e with ⟨g, q⟩ | ⟨g, q⟩
    · rw [if_pos g]; exact h1 lo y y a3 q c2
    · rw [if_neg g]; exact h2 y hi y a4 q c3)
theorem lr_b {L R : Int → Int} (x : Int) : ∀ v : Tr, tr_wf v → ∀ lo hi : Int, bst lo hi v → x ∈ ks v → rp L R v → (L x = -1 ∨ (L x ∈ ks v ∧ L x < x)) ∧ (R x = -1 ∨ (R x ∈ ks v ∧ x < R x)) := tr_ind (fun _ _ _ h => by rw [ks_lf] at h; cases h) (fun y l r w1 w2 h1 h2 lo hi hb hx hp => by
  obtain ⟨a1, a2, a3, a4⟩ := bst_nd.mp hb
  obtain ⟨b1, b2, b3, b4⟩ := rp_nd.mp hp
  by_cases e : x = y
  · rw [e, b1, b2]
    constructor
    · rcases tr_cases w1 with z | ⟨k, a, b, z, _, _⟩
      · left; rw [z]; rfl
      · right
        have m := rt_mem w1 (by rw [z]; intro h; cases h)
        exact ⟨by rw [ks_nd]; simp [m], (bst_mem l w1 lo y a3 _ m).2⟩
    · rcases tr_cases w2 with z | ⟨k, a, b, z, _, _⟩
      · left; rw [z]; rfl
      · right
        have m := rt_mem w2 (by rw [z]; intro h; cases h)
        exact ⟨by rw [ks_nd]; simp [m], (bst_mem r w2 y hi a4 _ m).1⟩
  · rcases side (t := lf) w1 w2 hb hx e with ⟨g, q⟩ | ⟨g, q⟩
    · obtain ⟨c1, c2⟩ := h1 lo y a3 q b3
      exact ⟨c1.imp id (fun z => ⟨by rw [ks_nd]; simp [z.1], z.2⟩), c2.imp id (fun z => ⟨by rw [ks_nd]; simp [z.1], z.2⟩)⟩
    · obtain ⟨c1, c2⟩ := h2 y hi a4 q b4
      exact ⟨c1.imp id (fun z => ⟨by rw [ks_nd]; simp [z.1], z.2⟩), c2.imp id (fun z => ⟨by rw [ks_nd]; simp [z.1], z.2⟩)⟩)
theorem pa_link {L R : Int → Int} (x : Int) : ∀ v : Tr, tr_wf v → ∀ lo hi q : Int, bst lo hi v → x ∈ ks v → x ≠ rt v → rp L R v → (x < pa x q v → L (pa x q v) = x) ∧ (pa x q v < x → R (pa x q v) = x) ∧ x ≠ pa x q v := tr_ind (fun _ _ _ _ h => by rw [ks_lf] at h; cases h) (fun y l r w1 w2 h1 h2 lo hi p hb hx hne hp => by
  obtain ⟨a1, a2, a3, a4⟩ := bst_nd.mp hb
  obtain ⟨b1, b2, b3, b4⟩ := rp_nd.mp hp
  rw [rt_nd] at hne
  rw [pa_nd, if_neg hne]
  rcases side (t := lf) w1 w2 hb hx hne with ⟨g, q⟩ | ⟨g, q⟩
  · rw [if_pos g]
    by_cases e : x = rt l
    · rw [(pa_in x l w1 lo y y a3 q).1 e]
      exact ⟨fun _ => by rw [b1, e], fun z => by omega, by omega⟩
    · exact h1 lo y y a3 q e b3
  · rw [if_neg g]
    by_cases e : x = rt r
    · rw [(pa_in x r w2 y hi y a4 q).1 e]
      exact ⟨fun z => absurd z g, fun _ => by rw [b2, e], by omega⟩
    · exact h2 y hi y a4 q e b4)
def zn (S S' : SX6) : Prop := gX6_most S' (ii 0).toNatClampNeg = gX6_most S (ii 0).toNatClampNeg ∧ gX6_built S' (ii 0).toNatClampNeg = gX6_built S (ii 0).toNatClampNeg ∧ gX6_cost S' (ii 0).toNatClampNeg = gX6_cost S (ii 0).toNatClampNeg ∧ gX6_credit S' = gX6_credit S ∧ gX6_lowest S' = gX6_lowest S
def hi_ (t : Int) (S S' : SX6) : Prop := ot S' = ot S ∧ (t = 1 → zo S S' ∧ zn S S')
theorem zn_refl (S : SX6) : zn S S := ⟨rfl, rfl, rfl, rfl, rfl⟩
theorem zn_trans {A B C : SX6} (h : zn A B) (g : zn B C) : zn A C := ⟨g.1.trans h.1, g.2.1.trans h.2.1, g.2.2.1.trans h.2.2.1, g.2.2.2.1.trans h.2.2.2.1, g.2.2.2.2.trans h.2.2.2.2⟩
theorem hi_refl (t : Int) (S : SX6) : hi_ t S S := ⟨rfl, fun _ => ⟨zo_refl S, zn_refl S⟩⟩
theorem hi_trans {t : Int} {A B C : SX6} (h : hi_ t A B) (g : hi_ t B C) : hi_ t A C := ⟨g.1.trans h.1, fun e => ⟨zo_trans (h.2 e).1 (g.2 e).1, zn_trans (h.2 e).2 (g.2 e).2⟩⟩
theorem lo_hi {t : Int} {A B : SX6} (h : lo t A B) : hi_ t A B := ⟨ou_ot h.1, fun e => ⟨h.2 e, by rw [ou_most h.1], by rw [ou_built h.1], by rw [ou_cost h.1], ou_credit h.1, ou_lowest h.1⟩⟩
def nm (S : SX6) (t m d c : Int) : Prop := gX6_most S (ii t).toNatClampNeg = ii m ∧ gX6_built S (ii t).toNatClampNeg = ii d ∧ gX6_cost S (ii t).toNatClampNeg = ii c
theorem nm_ou {S S' : SX6} {t m d c : Int} (e : ou S' = ou S) (h : nm S t m d c) : nm S' t m d c := by
  unfold nm at h ⊢
  rw [ou_most e, ou_built e, ou_cost e]
  exact h
def pyC (cr x : Int32) : Int32 := cr + x
def pyL (cr lw x : Int32) : Int32 := if lw ≤ cr + x then lw else cr + x
/-- the money of the first tree -/
def mo (t : Int) (S S' : SX6) (cr lw : Int32) : Prop := t = 0 → gX6_credit S' = cr ∧ gX6_lowest S' = lw
theorem pay6 (S : SX6) {t : Int} (ht : t = 0 ∨ t = 1) (x : Int32) : ∃ S', fX6_pay S (ii t) x = some S' ∧ hi_ t S S' ∧ (t = 0 → gX6_credit S' = pyC (gX6_credit S) x ∧ gX6_lowest S' = pyL (gX6_credit S) (gX6_lowest S) x) ∧ (∀ {L R U H : Int → Int} {r n : Int}, ar S t L R U H r n → ar S' t L R U H r n) ∧ (∀ {m d c : Int}, nm S t m d c → nm S' t m d c) ∧ gX6_builtNow S' = gX6_builtNow S ∧ gX6_row S' = gX6_row S := by
  unfold fX6_pay
  rcases ht with rfl | rfl
  · rw [if_pos (show ii 0 = 0 from rfl), cv_lt_eq]
    simp only [cv_lt_eq]
    by_cases e : gX6_lowest S ≤ gX6_credit S + x
    · rw [if_pos (show gX6_lowest (sX6_credit S (gX6_credit S + x)) ≤ gX6_credit (sX6_credit S (gX6_credit S + x)) from e)]
      refine ⟨_, rfl, ⟨rfl, fun z => by omega⟩, fun _ => ⟨rfl, ?_⟩, fun h => h, fun h => h, rfl, rfl⟩
      unfold pyL
      rw [if_pos e]
      rfl
    · rw [if_neg (show ¬ gX6_lowest (sX6_credit S (gX6_credit S + x)) ≤ gX6_credit (sX6_credit S (gX6_credit S + x)) from e)]
      refine ⟨_, rfl, ⟨rfl, fun z => by omega⟩, fun _ => ⟨rfl, ?_⟩, fun h => h, fun h => h, rfl, rfl⟩
      unfold pyL
      rw [if_neg e]
      rfl
  · rw [if_neg (by decide)]
    exact ⟨S, rfl, hi_refl 1 S, fun z => by omega, fun h => h, fun h => h, rfl, rfl⟩
theorem layRow_L {t : Int} (ht : t = 0 ∨ t = 1) {v : Tr} {top : Int} (t0 : 0 ≤ top) (t1 : top < 100) : ∀ (m n : Nat) (c s : Int) (S : SX6), rc S t v → 0 ≤ c → c + m = 100 → 0 ≤ s → s + (fil (bl top v) c m).length ≤ 40 → m < n → fX6_layRow_L5 (ii t) (ii top) n (ii s) (ii c) S = some (sX6_row S (wrt (gX6_row S) s (fil (bl top v) c m)))
  | 0, n, c, s, S, h, h1, h2, h3, h4, hn => by
    obtain ⟨n, rfl⟩ : ∃ m, n = m + 1 := ⟨n - 1, by omega⟩
    unfold fX6_layRow_L5
    rw [ii_l100, if_pos ((ii_le (by omega) (by omega) (by omega) (by omega)).mpr (by omega)), fil_0, wrt_nil]
    rfl
  | m + 1, n, c, s, S, h, h1, h2, h3, h4, hn => by
    obtain ⟨n, rfl⟩ : ∃ m, n = m + 1 := ⟨n - 1, by omega⟩
    have h' := h
    obtain ⟨w, hb, hz, L, R, U, H, ha, hp, hu, hh⟩ := h
    rw [fil_s] at h4 ⊢
    unfold fX6_layRow_L5
    simp (disch := omega) only [ii_l0, ii_l1, ii_l2, ii_l40, ii_l100, ii_neg, ii_le, cv_lt_eq, ix]
    rw [if_neg (by omega), cv_gd_pos (ig ht h1 (by omega)), ar_h ha ht h1 (by omega), hh c h1 (by omega)]
    by_cases z : c ∈ ks v
    · rw [if_pos z, if_pos rfl, cv_bd_eq (below6 h' ht z t0 t1)]
      by_cases g : top ∈ wy c v
      · have g2 : bl top v c = true := by unfold bl; simp [z, g]
        rw [if_pos g2, List.length_cons] at h4
        rw [if_pos g, if_neg (i_ne (by omega) (by omega) (by omega) (by omega) (by omega)), cv_gd_pos (ii_in h3 (by omega) (by omega)), cv_bd_some, if_pos g2, wrt_cons, ii_add, ii_add]
        exact layRow_L ht t0 t1 m n (c + 1) (s + 1) (sX6_row S (upd (gX6_row S) (ii s).toNatClampNeg (ii c))) h' (by omega) (by omega) (by omega) (by omega) (by omega)
      · have g2 : ¬ bl top v c = true := by unfold bl; simp [g]
        rw [if_neg g2] at h4
        rw [if_neg g, if_pos rfl, cv_bd_some, if_neg g2, ii_add]
        exact layRow_L ht t0 t1 m n (c + 1) s S h' (by omega) (by omega) h3 h4 (by omega)
    · have g2 : ¬ bl top v c = true := by unfold bl; simp [z]
      rw [if_neg g2] at h4
      rw [if_neg z, if_neg (i_ne (by omega) (by omega) (by omega) (by omega) (by omega)), cv_bd_some, if_neg g2, ii_add]
      exact layRow_L ht t0 t1 m n (c + 1) s S h' (by omega) (by omega) h3 h4 (by omega)
theorem upd_1 (f : Nat → Int32) (a : Nat) (x : Int32) : upd f a x a = x := by unfold upd; rw [if_pos rfl]
theorem upd_10 {t : Int} (e : t = 1) (f : Nat → Int32) (x : Int32) : upd f (ii t).toNatClampNeg x (ii 0).toNatClampNeg = f (ii 0).toNatClampNeg := by
  unfold upd
  rw [if_neg (by rw [e]; decide)]
/-- BUILD -/
theorem build6 {S : SX6} {t : Int} {v : Tr} (h : rc S t v) (ht : t = 0 ∨ t = 1) {top : Int} (hk : top ∈ ks v) {m d c : Int} (hn : nm S t m d c) :
    ∃ S', fX6_build S (ii t) (ii top) = some S' ∧ rc S' t (gr top (fk (at_ top v)) v) ∧ nm S' t m (d + 1) (c + sz (at_ top v)) ∧ gX6_builtNow S' = ii (sz (at_ top v)) ∧ hi_ t S S' ∧ (t = 0 → gX6_credit S' = pyC (gX6_credit S) (ii (0 - sz (at_ top v))) ∧ gX6_lowest S' = pyL (gX6_credit S) (gX6_lowest S) (ii (0 - sz (at_ top v)))) := by
  have h' := h
  have k0 := rc_in h hk
  obtain ⟨w, hb, hz, L, R, U, H, ha, hp, hu, hh⟩ := h
  obtain ⟨A, hA⟩ : ∃ A, A = at_ top v := ⟨_, rfl⟩
  obtain ⟨u, hu_⟩ : ∃ u, u = fk A := ⟨_, rfl⟩
  have wA : tr_wf A := by rw [hA]; exact at_wf top v w
  have kA : top ∈ ks A := by rw [hA]; exact at_self w hb hk
  obtain ⟨c1, c2, c3, c4, c5, c6⟩ := at_iv top v w (-1) 100 hb hk
  have bA : bst (-1) 100 A := by rw [hA]; exact bst_wide _ (at_wf top v w) _ _ _ _ c2 c3 c1
  have sA : sz A ≤ sz v := by rw [hA]; exact at_le top v w
  have sA1 : 0 < sz A := by
    have := (at_pos (k := top) w hb).mpr hk
    rw [hA]; exact this
  have subA : ∀ j, j ∈ ks A → j ∈ ks v := fun j hj => at_sub top j v w (by rw [← hA]; exact hj)
  have inA : ∀ j, j ∈ ks A → 0 ≤ j ∧ j < 100 := fun j hj => rc_in h' (subA j hj)
  have wu : tr_wf u := by rw [hu_]; exact fk_wf _
  have su : sz u = sz A := by rw [hu_]; exact fk_sz wA (by omega)
  have ku : ∀ j, j ∈ ks u ↔ j ∈ ks A := fun j => by rw [hu_]; exact fk_ks wA (by omega) j
  have eu : u = fl (kr A) 0 (sz A - 1) := hu_
  have bu : bst (-1) 100 u := by rw [hu_]; exact fk_bst wA bA
  have hsize := size6 h' ht hk
  rw [← hA] at hsize
  obtain ⟨x, hx⟩ : ∃ x, x = rt u := ⟨_, rfl⟩
  have xe : kr A ((sz A - 1) / 2) = x := by
    rw [hx, eu, fl_rt _ (by omega), if_neg (by omega)]
    congr 1
    omega
  have xA : x ∈ ks A := by rw [← xe]; exact kr_in wA (by omega) (by omega)
  have x0 := inA x xA
  obtain ⟨p, hp_⟩ : ∃ p, p = pa top (-1) v := ⟨_, rfl⟩
  have up : U top = p := by rw [hp_]; exact ra_pa U top v w _ _ _ hb hk hu
  have pin := pa_in top v w (-1) 100 (-1) hb hk
  have pout := pa_out top v w (-1) 100 (-1) hb hk (fun z => by have := bst_mem v w _ _ hb _ z; omega)
  rw [← hp_] at pin pout
  rw [← hA] at pout
  have pb : -1 ≤ p ∧ p < 100 := by
    by_cases z : top = rt v
    · have := pin.1 z; omega
    · have := rc_in h' (pin.2 z); omega
  have pne : p ≠ -1 → p ∈ ks v ∧ top ≠ rt v := fun z => by
    by_cases y : top = rt v
    · exact absurd (pin.1 y) z
    · exact ⟨pin.2 y, y⟩
  have plink : p ≠ -1 → (top < p → L p = top) ∧ (p < top → R p = top) ∧ top ≠ p := fun z => by
    have := pa_link (L := L) (R := R) top v w _ _ (-1) hb hk (pne z).2 hp
    rw [← hp_] at this
    exact this
  have plr : p ≠ -1 → (L p = -1 ∨ (L p ∈ ks v ∧ L p < p)) := fun z => (lr_b p v w _ _ hb (pne z).1 hp).1
  have pl2 : p ≠ -1 → -1 ≤ L p ∧ L p < 100 := fun z => by
    rcases plr z with y | y
    · omega
    · have := rc_in h' y.1; omega
  have ltop : p ≠ -1 → (L p = top ↔ top < p) := fun z => by
    have q := plink z
    refine ⟨fun y => ?_, q.1⟩
    rcases plr z with y' | y'
    · omega
    · omega
  -- the row
  obtain ⟨S1, hS1⟩ : ∃ S1, S1 = sX6_builtNow S (ii (sz A)) := ⟨_, rfl⟩
  have rc1 : rc S1 t v := by rw [hS1]; exact h'
  have lenA := ks_len wA
  have filA : fil (bl top v) 0 100 = ks A := by rw [hA]; exact bl_fil w hb hk
  have hlay := layRow_L ht (v := v) k0.1 k0.2 100 256 0 0 S1 rc1 (by omega) (by omega) (by omega) (by rw [filA]; omega) (by omega)
  rw [filA] at hlay
  obtain ⟨S2, hS2⟩ : ∃ S2, S2 = sX6_row S1 (wrt (gX6_row S1) 0 (ks A)) := ⟨_, rfl⟩
  rw [← hS2] at hlay
  have a2 : ar S2 t L R U H (rt v) (sz v) := by rw [hS2, hS1]; exact ha
  have row2 : ∀ j, 0 ≤ j → j < sz A → rd (gX6_row S2) j = kr A j := fun j j0 j1 => by
    rw [hS2]
    show rd (wrt (gX6_row S1) 0 (ks A)) j = _
    rw [wrt_rd _ _ _ _ (by omega) (by omega) (fun y hy => by have := inA y hy; omega) j0, if_pos (by omega), show j - 0 = j by omega]
    rfl
  have bn2 : gX6_builtNow S2 = ii (sz A) := by rw [hS2, hS1]; rfl
  -- the link from above
  have step : ∃ S3 L1 R1 U1, (if ii x = ii top then some S2 else cv_bd (fX6_replace S2 (ii t) (ii top) (ii x)) fun r70 => some r70) = some S3 ∧ lo t S2 S3 ∧ ar S3 t L1 R1 U1 H (if p = -1 then x else rt v) (sz v) ∧ (∀ j, 0 ≤ j → L1 j = if j = p ∧ top < j then x else L j) ∧ (∀ j, 0 ≤ j → R1 j = if j = p ∧ j < top then x else R j) ∧ (∀ j, j ≠ x → U1 j = U j) := by
    by_cases e : x = top
    · rw [if_pos (by rw [e])]
      refine ⟨S2, L, R, U, rfl, lo_refl t S2, ?_, fun j j0 => ?_, fun j j0 => ?_, fun _ _ => rfl⟩
      · by_cases z : p = -1
        · rw [if_pos z, e]
          by_cases y : top = rt v
          · rw [y]; exact a2
          · exact absurd z (by have := rc_in h' (pin.2 y); omega)
        · rw [if_neg z]; exact a2
      · by_cases z : j = p ∧ top < j
        · rw [if_pos z, z.1, e]
          exact (plink (by omega)).1 (by omega)
        · rw [if_neg z]
      · by_cases z : j = p ∧ j < top
        · rw [if_pos z, z.1, e]
          exact (plink (by omega)).2.1 (by omega)
        · rw [if_neg z]
    · rw [if_neg (i_ne (by omega) (by omega) (by omega) (by omega) e)]
      obtain ⟨S3, e1, e2, e3⟩ := replace6 a2 ht (x := top) (k := x) k0.1 k0.2 (by omega) x0.2 (by omega) (by omega) (by rw [up]; exact pl2)
      rw [up] at e3
      refine ⟨S3, _, _, _, cv_bd_eq e1 _, e2, e3, fun j j0 => ?_, fun j j0 => ?_, fun j hj => ?_⟩
      · by_cases z : p = -1
        · rw [if_neg (fun y => y.1 z), if_neg (by omega)]
        · by_cases y : top < p
          · rw [if_pos ⟨z, (ltop z).mpr y⟩]
            by_cases q : j = p
            · rw [fu_p _ q, if_pos ⟨q, by omega⟩]
            · rw [fu_n _ q, if_neg (fun o => q o.1)]
          · rw [if_neg (fun o => y ((ltop z).mp o.2)), if_neg (by omega)]
      · by_cases z : p = -1
        · rw [if_neg (fun y => y.1 z), if_neg (by omega)]
        · have q3 := (plink z).2.2
          by_cases y : top < p
          · rw [if_neg (fun o => o.2 ((ltop z).mpr y)), if_neg (by omega)]
          · rw [if_pos ⟨z, fun o => y ((ltop z).mp o)⟩]
            by_cases q : j = p
            · rw [fu_p _ q, if_pos ⟨q, by omega⟩]
            · rw [fu_n _ q, if_neg (fun o => q o.1)]
      · rw [if_neg (by omega), fu_n _ hj]
  obtain ⟨S3, L1, R1, U1, s1, s2, s3, s4, s5, s6⟩ := step
  -- the spans
  obtain ⟨S4, hS4⟩ : ∃ S4, S4 = psS S3 (ii 0) (ii 0) (ii (sz A - 1)) (ii p) := ⟨_, rfl⟩
  have q4 : qs S4 0 [(0, sz A - 1, p)] := by
    have := qs_push (S := S3) (i := 0) (Q := []) (u := 0) (w := sz A - 1) (x := p) (fun j hj => by simp at hj) (by omega) (by simp) (by omega) (by omega) (by omega)
    rw [hS4]
    exact this
  have a4 : ar S4 t L1 R1 U1 H (if p = -1 then x else rt v) (sz v) := by rw [hS4]; exact s3
  have l4 : lo t S2 S4 := by rw [hS4]; exact s2
  have row4 : gX6_row S4 = gX6_row S2 := ou_row l4.1
  obtain ⟨S5, L', R', U', f1, f2, f3, f4, f5⟩ := build_L ht (row := kr A) (N := sz A) (by omega) (fun i i0 i1 => inA _ (kr_in wA i0 i1)) (fun i j i0 i1 i2 => kr_lt wA bA i0 i1 i2) (sz A).toNat [(0, sz A - 1, p)] S4 L1 R1 U1 H _ _ 256 0 a4 (fun j j0 j1 => by rw [row4]; exact row2 j j0 j1) q4 (by show (sz A - 1 - 0 + 1) + 0 = _; omega) (by omega) (by omega) (fun s hs => by
    rw [List.mem_singleton] at hs
    rw [hs]
    show 0 ≤ 0 ∧ 0 ≤ sz A - 1 ∧ sz A - 1 < sz A ∧ -1 ≤ p ∧ p < 100
    omega) (List.pairwise_singleton _ _) (by omega)
  have f4' := f4 (0, sz A - 1, p) (by simp)
  simp only [← eu] at f4'
  have f5' : ∀ j, j ∉ ks A → L' j = L1 j ∧ R' j = R1 j ∧ U' j = U1 j := fun j hj => f5 j (fun s hs i i0 i1 e => by
    rw [List.mem_singleton] at hs
    rw [hs] at i0 i1
    simp only [] at i0 i1
    exact hj (by rw [← e]; exact kr_in wA i0 (by omega)))
  have l5 : lo t S2 S5 := lo_trans l4 f2
  -- the numbers
  obtain ⟨S6, hS6⟩ : ∃ S6, S6 = sX6_built S5 (upd (gX6_built S5) (ii t).toNatClampNeg (ii (d + 1))) := ⟨_, rfl⟩
  obtain ⟨S7, hS7⟩ : ∃ S7, S7 = sX6_cost S6 (upd (gX6_cost S6) (ii t).toNatClampNeg (ii (c + sz A))) := ⟨_, rfl⟩
  have bn5 : gX6_builtNow S5 = ii (sz A) := by rw [ou_builtNow l5.1]; exact bn2
  have bn6 : gX6_builtNow S6 = ii (sz A) := by rw [hS6]; exact bn5
  have bn7 : gX6_builtNow S7 = ii (sz A) := by rw [hS7]; exact bn6
  have n2 : nm S2 t m d c := by rw [hS2, hS1]; exact hn
  have n5 : nm S5 t m d c := nm_ou l5.1 n2
  have c6' : gX6_cost S6 (ii t).toNatClampNeg = ii c := by rw [hS6]; exact n5.2.2
  have n7 : nm S7 t m (d + 1) (c + sz A) := by
    refine ⟨?_, ?_, ?_⟩
    · rw [hS7, hS6]; exact n5.1
    · rw [hS7, hS6]; exact upd_1 _ _ _
    · rw [hS7]; exact upd_1 _ _ _
  have a7 : ar S7 t L' R' U' H (if p = -1 then x else rt v) (sz v) := by rw [hS7, hS6]; exact f3
  have h7 : hi_ t S S7 := by
    have e2 : hi_ t S S2 := by rw [hS2, hS1]; exact ⟨rfl, fun _ => ⟨zo_refl S, zn_refl S⟩⟩
    refine hi_trans (hi_trans e2 (lo_hi l5)) ⟨by rw [hS7, hS6]; rfl, fun e => ⟨by rw [hS7, hS6]; exact zo_refl S5, ?_⟩⟩
    refine ⟨by rw [hS7, hS6]; rfl, ?_, ?_, by rw [hS7, hS6]; rfl, by rw [hS7, hS6]; rfl⟩
    · rw [hS7, hS6]; exact upd_10 e _ _
    · rw [hS7, hS6]; exact upd_10 e _ _
  obtain ⟨S8, y1, y2, y3, y4, y5, y6, y7⟩ := pay6 S7 ht (ii (0 - sz A))
  have cr7 : gX6_credit S7 = gX6_credit S ∧ gX6_lowest S7 = gX6_lowest S := by
    have e1 := ou_credit l5.1
    have e2 := ou_lowest l5.1
    have e3 : gX6_credit S2 = gX6_credit S ∧ gX6_lowest S2 = gX6_lowest S := by rw [hS2, hS1]; exact ⟨rfl, rfl⟩
    rw [hS7, hS6]
    exact ⟨e1.trans e3.1, e2.trans e3.2⟩
  rw [← hA, ← hu_]
  refine ⟨S8, ?_, ?_, y5 n7, by rw [y6, bn7], hi_trans h7 y2, fun e => by rw [← cr7.1, ← cr7.2]; exact y3 e⟩
  · unfold fX6_build
    rw [cv_bd_eq hsize, cv_lt_eq, ← hS1]
    rw [cv_bd_eq (a := S2) (by unfold fX6_layRow; rw [ii_l0, cv_bd_eq hlay])]
    have gp := ii_in (k := (sz A - 1) / 2) (n := 40) (by omega) (by omega) (by omega)
    simp only [ii_l0, ii_l1, ii_l2, ii_l40, ii_l100, ii_neg, cv_lt_eq, ix]
    rw [bn2, ii_sub, ii_div (by omega) (by omega) (by omega) (by omega), cv_gd_pos gp, qX6_row S2 (by omega) (by omega), row2 _ (by omega) (by omega), xe, cv_gd_pos (ig ht k0.1 k0.2), ar_u a2 ht k0.1 k0.2, up, cv_bd_eq s1]
    have g0 := ii_in (k := 0) (n := 41) (by omega) (by omega) (by omega)
    have bn3 : gX6_builtNow (sX6_spanLow S3 (upd (gX6_spanLow S3) (ii 0).toNatClampNeg (ii 0))) = ii (sz A) := by
      show gX6_builtNow S3 = _
      rw [ou_builtNow s2.1]
      exact bn2
    rw [cv_gd_pos g0, cv_gd_pos g0, cv_gd_pos g0, bn3, ii_sub]
    refine (cv_bd_eq (a := S5) (by rw [hS4] at f1; exact f1) _).trans ?_
    have gt := ig2 ht
    rw [cv_gd_pos gt, cv_gd_pos gt, n5.2.1, ii_add, ← hS6, cv_gd_pos gt, cv_gd_pos gt, c6', bn6, ii_add, ← hS7, bn7, ii_sub, cv_bd_eq y1]
  · refine ⟨gr_wf top wu v w, gr_bst top v w _ _ hb hk (fun a b q => by rw [hu_, hA]; exact fk_bst (at_wf top v w) q), by rw [gr_sz top u v w _ _ hb hk, su, ← hA]; omega, L', R', U', H, ?_, ?_, ?_, ?_⟩
    · have hne : v ≠ lf := fun z => by rw [z, ks_lf] at hk; cases hk
      refine ar_ext (y4 a7) (fun _ _ _ => rfl) (fun _ _ _ => rfl) (fun _ _ _ => rfl) (fun _ _ _ => rfl) ?_ (by rw [gr_sz top u v w _ _ hb hk, su, ← hA]; omega)
      rw [gr_rt top u w hne, ← hx]
      by_cases z : top = rt v
      · rw [if_pos (pin.1 z), if_pos z]
      · have := rc_in h' (pin.2 z)
        rw [if_neg (by omega), if_neg z]
    · refine gr_rp (L := L) (R := R) top f4'.1 v w _ _ (-1) hb hk hp (fun j hj hn' => ?_)
      have j0 := rc_in h' hj
      have F := f5' j (by rw [hA]; exact hn')
      rw [← hp_, F.1, F.2.1, s4 j j0.1, s5 j j0.1, hx]
      exact ⟨rfl, rfl⟩
    · refine gr_ra (U := U) top v w _ _ (-1) hb hk hu (by rw [← hp_]; exact f4'.2) (fun j hj hn' => ?_)
      have hn2 : j ∉ ks A := by rw [hA]; exact hn'
      rw [(f5' j hn2).2.2, s6 j (fun z => hn2 (by rw [z]; exact xA))]
    · intro k k1 k2
      rw [hh k k1 k2]
      have : k ∈ ks (gr top u v) ↔ k ∈ ks v := by
        rw [gr_ks top k u v w _ _ hb hk, ku, ← hA]
        refine ⟨fun z => ?_, fun z => ?_⟩
        · rcases z with z | z
          · exact subA k z
          · exact z.1
        · by_cases y : k ∈ ks A
          · exact Or.inl y
          · exact Or.inr ⟨z, y⟩
      by_cases z : k ∈ ks v
      · rw [if_pos z, if_pos (this.mpr z)]
      · rw [if_neg z, if_neg (fun y => z (this.mp y))]
