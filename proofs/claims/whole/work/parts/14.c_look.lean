/-! the reference's trees: what is read -/
def rc (S : SX6) (t : Int) (v : Tr) : Prop := tr_wf v ∧ bst (-1) 100 v ∧ sz v ≤ 40 ∧ ∃ L R U H, ar S t L R U H (rt v) (sz v) ∧ rp L R v ∧ ra U (-1) v ∧ ∀ k, 0 ≤ k → k < 100 → H k = if k ∈ ks v then 1 else 0
theorem rev_ind {P : List Int → Prop} (h0 : P []) (h1 : ∀ xs x, P xs → P (xs ++ [x])) : ∀ xs, P xs := by
  have : ∀ ys : List Int, P ys.reverse := by
    intro ys
    induction ys with
    | nil => exact h0
    | cons a ys ih => rw [List.reverse_cons]; exact h1 _ _ ih
  intro xs
  have := this xs.reverse
  rw [List.reverse_reverse] at this
  exact this
/-- each one's above is the one ahead of it -/
def ch (U : Int → Int) : Int → List Int → Prop
  | _, [] => True
  | p, x :: xs => U x = p ∧ ch U x xs
theorem ch_wy (U : Int → Int) (k : Int) : ∀ v : Tr, tr_wf v → ∀ p : Int, ra U p v → ch U p (wy k v) := tr_ind (fun _ _ => trivial) (fun x l r w1 w2 h1 h2 p ha => by
  obtain ⟨a1, a2, a3⟩ := ra_nd.mp ha
  rw [wy_nd]
  refine ⟨a1, ?_⟩
  by_cases e : k = x
  · rw [if_pos e]; trivial
  · rw [if_neg e]
    by_cases g : k < x
    · rw [if_pos g]; exact h1 x a2
    · rw [if_neg g]; exact h2 x a3)
theorem ch_app (U : Int → Int) (x : Int) : ∀ (xs : List Int) (p : Int), ch U p (xs ++ [x]) → ch U p xs ∧ U x = xs.getLastD p
  | [], p, h => ⟨trivial, h.1⟩
  | y :: ys, p, h => by
    have := ch_app U x ys y h.2
    refine ⟨⟨h.1, this.1⟩, ?_⟩
    rw [List.getLastD_cons]
    exact this.2
theorem last_in (xs : List Int) (h : ∀ x ∈ xs, 0 ≤ x ∧ x < 100) : -1 ≤ xs.getLastD (-1) ∧ xs.getLastD (-1) < 100 := by
  cases xs with
  | nil => show (-1 : Int) ≤ -1 ∧ (-1 : Int) < 100; omega
  | cons a b =>
    rw [← last_gd (a :: b) (by simp)]
    have := h _ (getD_mem (xs := a :: b) (p := (a :: b).length - 1) (by simp))
    omega
theorem last_app (xs : List Int) (x : Int) : (xs ++ [x]).getLastD (-1) = x := by
  rw [← last_gd _ (by simp)]
  simp
section
variable {S : SX6} {t : Int} {L R U H : Int → Int} {r n : Int}
theorem depth_L (h : ar S t L R U H r n) (ht : t = 0 ∨ t = 1) : ∀ xs : List Int, ch U (-1) xs → (∀ x ∈ xs, 0 ≤ x ∧ x < 100) → ∀ (m : Nat) (s : Int), xs.length < m → fX6_depth_L15 S (ii t) m (ii s) (ii (xs.getLastD (-1))) = some (ii (s + xs.length)) :=
  rev_ind (fun _ _ m s hm => by
    obtain ⟨m, rfl⟩ : ∃ k, m = k + 1 := ⟨m - 1, by omega⟩
    unfold fX6_depth_L15
    rw [show ([] : List Int).getLastD (-1) = -1 from rfl, ii_lm, if_pos rfl]
    simp) (fun xs x ih hc hx m s hm => by
    obtain ⟨m, rfl⟩ : ∃ k, m = k + 1 := ⟨m - 1, by omega⟩
    rw [List.length_append, List.length_singleton] at hm
    obtain ⟨c1, c2⟩ := ch_app U x xs (-1) hc
    have x0 := hx x (by simp)
    unfold fX6_depth_L15
    rw [last_app]
    simp only [ii_l0, ii_l1, ii_l2, ii_l40, ii_l100, ii_neg, cv_lt_eq, ix]
    rw [if_neg (i_ne (by omega) (by omega) (by omega) (by omega) (by omega)), cv_gd_pos (ig ht x0.1 x0.2), ar_u h ht x0.1 x0.2, c2, ii_add, ih c1 (fun y hy => hx y (by simp [hy])) m (s + 1) (by omega), List.length_append, List.length_singleton]
    congr 2
    omega)
theorem below_L (h : ar S t L R U H r n) (ht : t = 0 ∨ t = 1) {top : Int} (t0 : 0 ≤ top) (t1 : top < 100) : ∀ xs : List Int, ch U (-1) xs → (∀ x ∈ xs, 0 ≤ x ∧ x < 100) → ∀ (m : Nat), xs.length < m → fX6_isBelow_L3 S (ii t) (ii top) m (ii (xs.getLastD (-1))) = some (ii (if top ∈ xs then top else -1)) :=
  rev_ind (fun _ _ m hm => by
    obtain ⟨m, rfl⟩ : ∃ k, m = k + 1 := ⟨m - 1, by omega⟩
    unfold fX6_isBelow_L3
    rw [show ([] : List Int).getLastD (-1) = -1 from rfl, ii_lm, if_pos rfl, if_neg (by simp)]) (fun xs x ih hc hx m hm => by
    obtain ⟨m, rfl⟩ : ∃ k, m = k + 1 := ⟨m - 1, by omega⟩
    rw [List.length_append, List.length_singleton] at hm
    obtain ⟨c1, c2⟩ := ch_app U x xs (-1) hc
    have x0 := hx x (by simp)
    unfold fX6_isBelow_L3
    rw [last_app]
    simp only [ii_l0, ii_l1, ii_l2, ii_l40, ii_l100, ii_neg, cv_lt_eq, ix]
    rw [if_neg (i_ne (by omega) (by omega) (by omega) (by omega) (by omega))]
    by_cases e : x = top
    · rw [if_pos (by rw [e]), if_pos (by simp [e]), e]
    · rw [if_neg (i_ne (by omega) (by omega) (by omega) (by omega) e), cv_gd_pos (ig ht x0.1 x0.2), ar_u h ht x0.1 x0.2, c2, ih c1 (fun y hy => hx y (by simp [hy])) m (by omega)]
      congr 2
      simp only [List.mem_append, List.mem_singleton]
      by_cases g : top ∈ xs
      · rw [if_pos g, if_pos (Or.inl g)]
      · rw [if_neg g, if_neg (fun z => z.elim g (fun y => e y.symm))])
end
section
variable {S : SX6} {t : Int} {v : Tr}
theorem rc_in (h : rc S t v) {k : Int} (hk : k ∈ ks v) : 0 ≤ k ∧ k < 100 := by
  have := bst_mem v h.1 _ _ h.2.1 k hk
  omega
theorem rc_wy (h : rc S t v) (k : Int) : (∀ x ∈ wy k v, 0 ≤ x ∧ x < 100) ∧ ((wy k v).length : Int) ≤ 40 := by
  have := wy_len v h.1 k
  have := h.2.2.1
  exact ⟨fun x hx => rc_in h (wy_sub v h.1 k x hx), by omega⟩
/-- DEPTH -/
theorem depth6 (h : rc S t v) (ht : t = 0 ∨ t = 1) {k : Int} (hk : k ∈ ks v) : fX6_depth S (ii t) (ii k) = some (ii ((wy k v).length - 1)) := by
  have k0 := rc_in h hk
  have hw := rc_wy h k
  obtain ⟨w, hb, hz, L, R, U, H, ha, hp, hu, hh⟩ := h
  obtain ⟨xs, e1, e2⟩ := wy_there k v w _ _ (-1) hb hk
  have hc := ch_wy U k v w (-1) hu
  rw [e1] at hc hw ⊢
  rw [List.length_append, List.length_singleton] at hw ⊢
  obtain ⟨c1, c2⟩ := ch_app U k xs (-1) hc
  unfold fX6_depth
  simp only [ii_l0, ii_l1, ii_l2, ii_l40, ii_l100, ii_neg, cv_lt_eq, ix]
  rw [cv_gd_pos (ig ht k0.1 k0.2), ar_u ha ht k0.1 k0.2, c2, cv_bd_eq (depth_L ha ht xs c1 (fun x hx => hw.1 x (by simp [hx])) 256 0 (by omega))]
  congr 2
  omega
/-- ISBELOW -/
theorem below6 (h : rc S t v) (ht : t = 0 ∨ t = 1) {k top : Int} (hk : k ∈ ks v) (t0 : 0 ≤ top) (t1 : top < 100) : fX6_isBelow S (ii t) (ii k) (ii top) = some (if top ∈ wy k v then ii 1 else ii 0) := by
  have k0 := rc_in h hk
  have hw := rc_wy h k
  obtain ⟨w, hb, hz, L, R, U, H, ha, hp, hu, hh⟩ := h
  obtain ⟨xs, e1, e2⟩ := wy_there k v w _ _ (-1) hb hk
  have hc := ch_wy U k v w (-1) hu
  have hL := below_L ha ht t0 t1 (wy k v) hc hw.1 256 (by omega)
  rw [e1, last_app] at hL
  unfold fX6_isBelow
  rw [cv_bd_eq hL, e1]
  by_cases g : top ∈ xs ++ [k]
  · rw [if_pos g, if_pos rfl, if_pos g]; rfl
  · rw [if_neg g, if_neg (i_ne (by omega) (by omega) (by omega) (by omega) (by omega)), if_neg g]; rfl
theorem at_below (k top : Int) : ∀ v : Tr, tr_wf v → ∀ lo hi : Int, bst lo hi v → (k ∈ ks (at_ top v) ↔ k ∈ ks v ∧ top ∈ wy k v) := tr_ind (fun _ _ _ => by rw [at_lf, ks_lf]; simp) (fun x l r w1 w2 h1 h2 lo hi hb => by
  obtain ⟨a1, a2, a3, a4⟩ := bst_nd.mp hb
  rw [at_nd, wy_nd]
  by_cases e : top = x
  · rw [if_pos e]; simp [e]
  · rw [if_neg e]
    have kl : k ∈ ks l → k < x := fun z => (bst_mem l w1 lo x a3 k z).2
    have kr : k ∈ ks r → x < k := fun z => (bst_mem r w2 x hi a4 k z).1
    have tl : top ∈ wy k l → top < x := fun z => (bst_mem l w1 lo x a3 top (wy_sub l w1 k top z)).2
    have tr : top ∈ wy k r → x < top := fun z => (bst_mem r w2 x hi a4 top (wy_sub r w2 k top z)).1
    by_cases g : top < x
    · rw [if_pos g, h1 lo x a3, ks_nd]
      simp only [List.mem_append, List.mem_cons, e, false_or]
      by_cases c : k = x
      · rw [if_pos c]
        refine ⟨fun z => absurd (kl z.1) (by omega), fun z => by simp at z⟩
      · rw [if_neg c]
        by_cases d : k < x
        · rw [if_pos d]
          refine ⟨fun z => ⟨Or.inl z.1, z.2⟩, fun z => ⟨?_, z.2⟩⟩
          rcases z.1 with y | y | y
          · exact y
          · exact absurd y c
          · exact absurd (kr y) (by omega)
        · rw [if_neg d]
          exact ⟨fun z => absurd (kl z.1) d, fun z => absurd (tr z.2) (by omega)⟩
    · rw [if_neg g, h2 x hi a4, ks_nd]
      simp only [List.mem_append, List.mem_cons, e, false_or]
      by_cases c : k = x
      · rw [if_pos c]
        refine ⟨fun z => absurd (kr z.1) (by omega), fun z => by simp at z⟩
      · rw [if_neg c]
        by_cases d : k < x
        · rw [if_pos d]
          exact ⟨fun z => absurd (kr z.1) (by omega), fun z => absurd (tl z.2) g⟩
        · rw [if_neg d]
          refine ⟨fun z => ⟨Or.inr (Or.inr z.1), z.2⟩, fun z => ⟨?_, z.2⟩⟩
          rcases z.1 with y | y | y
          · exact absurd (kl y) d
          · exact absurd y c
          · exact y)
/-- those of a part -/
def bl (top : Int) (v : Tr) (k : Int) : Bool := decide (k ∈ ks v) && decide (top ∈ wy k v)
theorem bl_fil {v : Tr} (w : tr_wf v) (hb : bst (-1) 100 v) {top : Int} (hk : top ∈ ks v) : fil (bl top v) 0 100 = ks (at_ top v) := by
  obtain ⟨c1, c2, c3, c4, c5, c6⟩ := at_iv top v w (-1) 100 hb hk
  have := fil_ks (P := bl top v) (at_ top v) (at_wf top v w) (-1) 100 (by omega) (bst_wide _ (at_wf top v w) _ _ _ _ c2 c3 c1) (fun k _ _ => by
    rw [at_below k top v w _ _ hb]
    unfold bl
    simp)
  exact this
theorem size_L (h : rc S t v) (ht : t = 0 ∨ t = 1) {top : Int} (t0 : 0 ≤ top) (t1 : top < 100) : ∀ (m n : Nat) (c s : Int), 0 ≤ c → c + m = 100 → 0 ≤ s → s + m ≤ 1000 → m < n → fX6_size_L5 S (ii t) (ii top) n (ii s) (ii c) = some (ii (s + (fil (bl top v) c m).length))
  | 0, n, c, s, h1, h2, h3, h4, hn => by
    obtain ⟨n, rfl⟩ : ∃ m, n = m + 1 := ⟨n - 1, by omega⟩
    unfold fX6_size_L5
    rw [ii_l100, if_pos ((ii_le (by omega) (by omega) (by omega) (by omega)).mpr (by omega)), fil_0]
    simp
  | m + 1, n, c, s, h1, h2, h3, h4, hn => by
    obtain ⟨n, rfl⟩ : ∃ m, n = m + 1 := ⟨n - 1, by omega⟩
    have h' := h
    obtain ⟨w, hb, hz, L, R, U, H, ha, hp, hu, hh⟩ := h
    unfold fX6_size_L5
    simp (disch := omega) only [ii_l0, ii_l1, ii_l2, ii_l40, ii_l100, ii_neg, ii_le, cv_lt_eq, ix]
    rw [if_neg (by omega), if_neg (i_ne (by omega) (by omega) (by omega) (by omega) (by omega)), cv_gd_pos (ig ht h1 (by omega)), ar_h ha ht h1 (by omega), hh c h1 (by omega), fil_s]
    by_cases z : c ∈ ks v
    · rw [if_pos z, if_pos rfl, cv_bd_eq (below6 h' ht z t0 t1)]
      by_cases g : top ∈ wy c v
      · rw [if_pos g, if_neg (i_ne (by omega) (by omega) (by omega) (by omega) (by omega)), cv_bd_some, ii_add, ii_add, size_L h' ht t0 t1 m n (c + 1) (s + 1) (by omega) (by omega) (by omega) (by omega) (by omega), if_pos (by unfold bl; simp [z, g]), List.length_cons]
        congr 2
        omega
      · rw [if_neg g, if_pos rfl, cv_bd_some, ii_add, ii_add, size_L h' ht t0 t1 m n (c + 1) (s + 0) (by omega) (by omega) (by omega) (by omega) (by omega), if_neg (by unfold bl; simp [g]), Int.add_zero]
    · rw [if_neg z, if_neg (i_ne (by omega) (by omega) (by omega) (by omega) (by omega)), cv_bd_some, ii_add, ii_add, size_L h' ht t0 t1 m n (c + 1) (s + 0) (by omega) (by omega) (by omega) (by omega) (by omega), if_neg (by unfold bl; simp [z]), Int.add_zero]
/-- SIZE -/
theorem size6 (h : rc S t v) (ht : t = 0 ∨ t = 1) {top : Int} (hk : top ∈ ks v) : fX6_size S (ii t) (ii top) = some (ii (sz (at_ top v))) := by
  have k0 := rc_in h hk
  unfold fX6_size
  rw [ii_l0, cv_bd_eq (size_L h ht k0.1 k0.2 100 256 0 0 (by omega) (by omega) (by omega) (by omega) (by omega)), bl_fil h.1 h.2.1 hk, Int.zero_add, ks_len (at_wf top v h.1)]
theorem size6n (S : SX6) (t : Int) : fX6_size S (ii t) (ii (-1)) = some (ii 0) := by
  unfold fX6_size
  rw [ii_l0, cv_bd_eq (a := ii 0) (by
    unfold fX6_size_L5
    rw [ii_l100, if_neg (fun z => by rw [ii_le (by omega) (by omega) (by omega) (by omega)] at z; omega), ii_lm, if_pos rfl])]
/-- a part by its top, -1: none -/
theorem size6r (h : rc S t v) (ht : t = 0 ∨ t = 1) {u : Tr} (hu : u = lf ∨ (rt u ∈ ks v ∧ at_ (rt u) v = u)) : fX6_size S (ii t) (ii (rt u)) = some (ii (sz u)) := by
  rcases hu with e | ⟨e, g⟩
  · rw [e, rt_lf, size6n, sz_lf]
  · rw [size6 h ht e, g]
theorem tall_L6 (h : rc S t v) (ht : t = 0 ∨ t = 1) : ∀ (m n : Nat) (c s : Int), 0 ≤ c → c + m = 100 → -1 ≤ s → s ≤ 40 → m < n → fX6_tall_L4 S (ii t) n (ii s) (ii c) = some (ii (tlf v m c s))
  | 0, n, c, s, h1, h2, h3, h4, hn => by
    obtain ⟨n, rfl⟩ : ∃ m, n = m + 1 := ⟨n - 1, by omega⟩
    unfold fX6_tall_L4
    rw [ii_l100, if_pos ((ii_le (by omega) (by omega) (by omega) (by omega)).mpr (by omega))]
    rfl
  | m + 1, n, c, s, h1, h2, h3, h4, hn => by
    obtain ⟨n, rfl⟩ : ∃ m, n = m + 1 := ⟨n - 1, by omega⟩
    have h' := h
    obtain ⟨w, hb, hz, L, R, U, H, ha, hp, hu, hh⟩ := h
    have hw := rc_wy h' c
    unfold fX6_tall_L4
    simp (disch := omega) only [ii_l0, ii_l1, ii_l2, ii_l40, ii_l100, ii_neg, ii_le, cv_lt_eq, ix]
    rw [if_neg (by omega), cv_gd_pos (ig ht h1 (by omega)), ar_h ha ht h1 (by omega), hh c h1 (by omega)]
    by_cases z : c ∈ ks v
    · rw [if_pos z, if_pos rfl, cv_bd_eq (depth6 h' ht z), cv_bd_some]
      simp (disch := omega) only [ii_le]
      simp only [tlf, if_pos z]
      by_cases g : ((wy c v).length : Int) - 1 ≤ s
      · rw [if_pos g, cv_bd_some, ii_add, tall_L6 h' ht m n (c + 1) s (by omega) (by omega) h3 h4 (by omega), show max s ((wy c v).length - 1 : Int) = s by omega]
      · rw [if_neg g, cv_bd_some, ii_add, tall_L6 h' ht m n (c + 1) _ (by omega) (by omega) (by omega) (by omega) (by omega), show max s ((wy c v).length - 1 : Int) = (wy c v).length - 1 by omega]
    · rw [if_neg z, if_neg (i_ne (by omega) (by omega) (by omega) (by omega) (by omega)), cv_bd_some]
      simp (disch := omega) only [ii_le]
      simp only [tlf, if_neg z]
      rw [if_pos (by omega), cv_bd_some, ii_add, tall_L6 h' ht m n (c + 1) s (by omega) (by omega) h3 h4 (by omega)]
/-- TALL -/
theorem tall6 (h : rc S t v) (ht : t = 0 ∨ t = 1) : fX6_tall S (ii t) = some (ii (tl v)) := by
  unfold fX6_tall tl
  simp only [ii_l0, ii_l1, ii_l2, ii_l40, ii_l100, ii_neg]
  rw [cv_bd_eq (tall_L6 h ht 100 256 0 (-1) (by omega) (by omega) (by omega) (by omega) (by omega))]
end
/-- LIMIT -/
def ab (S : SX6) (t a b : Int) : Prop := fX6_a S (ii t) = some (ii a) ∧ fX6_b S (ii t) = some (ii b)
theorem ab_ot {S S' : SX6} {t a b : Int} (e : ot S' = ot S) (h : ab S t a b) : ab S' t a b := by
  unfold ab fX6_a fX6_b at h ⊢
  rw [ot_ratioA e, ot_ratioB e, ot_thenA e, ot_thenB e]
  exact h
def limM (a b u : Int32) : Nat → Int32 → Int64 → Int64 → Option Int32
  | 0, _, _, _ => none
  | n + 1, y3, y4, y6 => if u ≤ (1 : Int32) then some y3 else if 0 < lg_cmp y4 y6 then some y3 else limM a b u n (y3 + (1 : Int32)) (y4 * b.toInt64) (y6 * a.toInt64)
theorem limM_eq {S : SX6} {t a b : Int} (h : ab S t a b) (u : Int32) : ∀ (n : Nat) (y3 : Int32) (y4 y6 : Int64), fX6_limit_L21 S (ii t) u n y3 y4 y6 = limM (ii a) (ii b) u n y3 y4 y6 := by
  intro n
  induction n with
  | zero => intro _ _ _; rfl
  | succ n ih =>
    intro y3 y4 y6
    unfold fX6_limit_L21 limM
    simp only [cv_lt_eq, h.1, h.2, cv_bd_some, ih]
theorem limM_23 : ∀ m : Nat, m < 42 → limM (ii 2) (ii 3) (ii (m : Int)) 256 (0 : Int32) (ii 3).toInt64 ((ii 2).toInt64 * (ii (m : Int)).toInt64) = some (ii (lim 2 3 m)) := by decide +kernel
theorem limM_34 : ∀ m : Nat, m < 42 → limM (ii 3) (ii 4) (ii (m : Int)) 256 (0 : Int32) (ii 4).toInt64 ((ii 3).toInt64 * (ii (m : Int)).toInt64) = some (ii (lim 3 4 m)) := by decide +kernel
theorem limM_35 : ∀ m : Nat, m < 42 → limM (ii 3) (ii 5) (ii (m : Int)) 256 (0 : Int32) (ii 5).toInt64 ((ii 3).toInt64 * (ii (m : Int)).toInt64) = some (ii (lim 3 5 m)) := by decide +kernel
theorem limM_45 : ∀ m : Nat, m < 42 → limM (ii 4) (ii 5) (ii (m : Int)) 256 (0 : Int32) (ii 5).toInt64 ((ii 4).toInt64 * (ii (m : Int)).toInt64) = some (ii (lim 4 5 m)) := by decide +kernel
theorem limit6 {S : SX6} {t a b n : Int} (h : ab S t a b) (hr : rat a b) (h1 : 0 ≤ n) (h2 : n ≤ 41) : fX6_limit S (ii t) (ii n) = some (ii (lim a b n)) := by
  have key : limM (ii a) (ii b) (ii n) 256 (0 : Int32) (ii b).toInt64 ((ii a).toInt64 * (ii n).toInt64) = some (ii (lim a b n)) := by
    obtain ⟨m, rfl⟩ : ∃ m : Nat, n = m := ⟨n.toNat, by omega⟩
    rcases hr with ⟨rfl, rfl⟩ | ⟨rfl, rfl⟩ | ⟨rfl, rfl⟩ | ⟨rfl, rfl⟩
    · exact limM_23 m (by omega)
    · exact limM_34 m (by omega)
    · exact limM_35 m (by omega)
    · exact limM_45 m (by omega)
  unfold fX6_limit
  simp only [cv_lt_eq, h.1, h.2, cv_bd_some, limM_eq h, key]
