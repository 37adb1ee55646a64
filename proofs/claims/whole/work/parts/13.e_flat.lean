/-! the class's tree: flat -/
/-- other links and sizes -/
def mk3 (T : SX4) (l r s : Nat → Int32) : SX4 := sX4_sizes (sX4_rights (sX4_lefts T l) r) s
theorem mk3_self (T : SX4) : mk3 T (gX4_lefts T) (gX4_rights T) (gX4_sizes T) = T := rfl
theorem flat_L {row : Int → Int} : ∀ (n : Nat) (lo hi lev : Int) (T : SX4), hi - lo + 1 < 2 ^ n → 0 ≤ lo → lo ≤ hi + 1 → hi < 40 → 0 ≤ lev → lev + n ≤ 40 → (∀ i, lo ≤ i → i ≤ hi → rd (gX4_row T) i = row i) → (∀ i, lo ≤ i → i ≤ hi → 0 ≤ row i ∧ row i < 100) → (∀ i j, lo ≤ i → i < j → j ≤ hi → row i < row j) →
    ∃ l r s, fX4_flat (n + 1) T (ii lo) (ii hi) (ii lev) = some (ii (rt (flt row n lo hi)), mk3 T l r s) ∧ rp (rd l) (rd r) (flt row n lo hi) ∧ (∀ k ∈ ks (flt row n lo hi), rd s k = sz (at_ k (flt row n lo hi))) ∧ (∀ k, 0 ≤ k → k ∉ ks (flt row n lo hi) → rd l k = rd (gX4_lefts T) k ∧ rd r k = rd (gX4_rights T) k ∧ rd s k = rd (gX4_sizes T) k)
  | n, lo, hi, lev, T, hn, h0, h1, h2, h3, h4, hrow, hin, hlt => by
    by_cases q : hi < lo
    · rw [flt_no row n q, rt_lf]
      refine ⟨gX4_lefts T, gX4_rights T, gX4_sizes T, ?_, rp_lf _ _, (fun k hk => by rw [ks_lf] at hk; cases hk), (fun k _ _ => ⟨rfl, rfl, rfl⟩)⟩
      rw [mk3_self]
      unfold fX4_flat
      simp (disch := omega) only [ii_l0, ii_l1, ii_l2, ii_l40, ii_l100, ii_neg, ii_lt, ii_le]
      rw [if_neg (by omega), if_neg (by omega), if_pos (by omega)]
    · cases n with
      | zero => exfalso; have : (2 : Int) ^ 0 = 1 := rfl; omega
      | succ n =>
        rw [p2] at hn
        obtain ⟨m, hm⟩ : ∃ m, m = (lo + hi) / 2 := ⟨_, rfl⟩
        have hmr := hin m (by omega) (by omega)
        obtain ⟨x, hx⟩ : ∃ x, x = row m := ⟨_, rfl⟩
        rw [flt_s, if_neg q, rt_nd, ← hm, ← hx]
        rw [← hx] at hmr
        obtain ⟨l1, r1, s1, e1, p1, z1, f1⟩ := flat_L n lo (m - 1) (lev + 1) T (by omega) h0 (by omega) (by omega) (by omega) (by omega) (fun i a b => hrow i a (by omega)) (fun i a b => hin i a (by omega)) (fun i j a b c => hlt i j a b (by omega))
        obtain ⟨A, hA⟩ : ∃ A, A = flt row n lo (m - 1) := ⟨_, rfl⟩
        obtain ⟨B, hB⟩ : ∃ B, B = flt row n (m + 1) hi := ⟨_, rfl⟩
        rw [← hA, ← hB]
        have wA : tr_wf A := by rw [hA]; exact flt_wf _ _ _ _
        have wB : tr_wf B := by rw [hB]; exact flt_wf _ _ _ _
        have kA : ∀ j ∈ ks A, j < x := fun j hj => by
          rw [hA] at hj
          obtain ⟨i, a, b, e⟩ := (flt_ks row n lo (m - 1) (by omega) j).mp hj
          rw [e, hx]
          exact hlt i m a (by omega) (by omega)
        have kB : ∀ j ∈ ks B, x < j ∧ 0 ≤ j := fun j hj => by
          rw [hB] at hj
          obtain ⟨i, a, b, e⟩ := (flt_ks row n (m + 1) hi (by omega) j).mp hj
          rw [e, hx]
          exact ⟨hlt m i (by omega) (by omega) b, (hin i (by omega) b).1⟩
        have kA0 : ∀ j ∈ ks A, 0 ≤ j := fun j hj => by
          rw [hA] at hj
          obtain ⟨i, a, b, e⟩ := (flt_ks row n lo (m - 1) (by omega) j).mp hj
          rw [e]
          exact (hin i a (by omega)).1
        rw [← hA] at e1 p1 z1 f1
        have bA : -1 ≤ rt A ∧ rt A < 100 := by
          rcases tr_cases wA with z | ⟨y, a, b, z, -, -⟩
          · rw [z, rt_lf]; omega
          · have := rt_mem wA (by rw [z]; intro h; cases h)
            have := kA _ this
            have := kA0 _ (rt_mem wA (by rw [z]; intro h; cases h))
            omega
        -- behind the left side
        obtain ⟨T2, hT2⟩ : ∃ T2, T2 = mk3 T (upd l1 (ii x).toNatClampNeg (ii (rt A))) r1 s1 := ⟨_, rfl⟩
        obtain ⟨l2, r2, s2, e2, p2', z2, f2⟩ := flat_L n (m + 1) hi (lev + 1) T2 (by omega) (by omega) (by omega) h2 (by omega) (by omega) (fun i a b => by rw [hT2]; exact hrow i (by omega) b) (fun i a b => hin i (by omega) b) (fun i j a b c => hlt i j (by omega) b c)
        rw [← hB] at e2 p2' z2 f2
        have bB : -1 ≤ rt B ∧ rt B < 100 := by
          rcases tr_cases wB with z | ⟨y, a, b, z, -, -⟩
          · rw [z, rt_lf]; omega
          · have hh := rt_mem wB (by rw [z]; intro h; cases h)
            have := kB _ hh
            rw [hB] at hh
            obtain ⟨i, a, b, e⟩ := (flt_ks row n (m + 1) hi (by omega) _).mp hh
            have := hin i (by omega) b
            rw [← hB] at e
            omega
        have xB : x ∉ ks B := fun h => by have := (kB x h).1; omega
        have xA : x ∉ ks A := fun h => by have := kA x h; omega
        have g2l : ∀ k, 0 ≤ k → k ∉ ks B → rd l2 k = if k = x then rt A else rd l1 k := fun k k0 kn => by
          rw [(f2 k k0 kn).1, hT2]
          show rd (upd l1 (ii x).toNatClampNeg (ii (rt A))) k = _
          rw [rd_upd l1 hmr.1 (by omega) (by omega) (by omega) k0]
        have g2r : ∀ k, 0 ≤ k → k ∉ ks B → rd r2 k = rd r1 k := fun k k0 kn => by rw [(f2 k k0 kn).2.1, hT2]; rfl
        have g2s : ∀ k, 0 ≤ k → k ∉ ks B → rd s2 k = rd s1 k := fun k k0 kn => by rw [(f2 k k0 kn).2.2, hT2]; rfl
        refine ⟨l2, upd r2 (ii x).toNatClampNeg (ii (rt B)), upd s2 (ii x).toNatClampNeg (ii (hi - lo + 1)), ?_, ?_, ?_, ?_⟩
        · unfold fX4_flat
          simp (disch := omega) only [ii_l0, ii_l1, ii_l2, ii_l40, ii_l100, ii_neg, ii_lt, ii_le, ii_add, ii_sub, cv_lt_eq]
          rw [if_neg (by omega), if_neg (by omega), if_neg (by omega), if_pos (by omega), ii_div (by omega) (by omega) (by omega) (by omega), ← hm, cv_gd_pos (ii_in (by omega) (by omega) (by omega)), qX4_row T (by omega) (by omega), hrow m (by omega) (by omega), ← hx, ii_sub, cv_bd_eq e1, cv_gd_pos (ii_in hmr.1 hmr.2 (by omega)), ii_add]
          rw [show sX4_lefts (mk3 T l1 r1 s1) (upd (gX4_lefts (mk3 T l1 r1 s1)) (ii x).toNatClampNeg (ii (rt A))) = T2 by rw [hT2]; rfl, cv_bd_eq e2, cv_gd_pos (ii_in hmr.1 hmr.2 (by omega)), cv_gd_pos (ii_in hmr.1 hmr.2 (by omega)), hT2]
          rfl
        · refine rp_nd.mpr ⟨?_, ?_, ?_, ?_⟩
          · rw [g2l x hmr.1 xB, if_pos rfl]
          · rw [rd_upd r2 hmr.1 (by omega) (by omega) (by omega) hmr.1, if_pos rfl]
          · refine rp_frame A wA (fun k hk => ?_) p1
            have a1 := kA k hk
            have a0 := kA0 k hk
            have kn : k ∉ ks B := fun h => by have := (kB k h).1; omega
            rw [g2l k a0 kn, if_neg (by omega), rd_upd r2 hmr.1 (by omega) (by omega) (by omega) a0, if_neg (by omega), g2r k a0 kn]
            exact ⟨rfl, rfl⟩
          · refine rp_frame B wB (fun k hk => ?_) p2'
            have a1 := kB k hk
            rw [rd_upd r2 hmr.1 (by omega) (by omega) (by omega) a1.2, if_neg (by omega)]
            exact ⟨rfl, rfl⟩
        · intro k hk
          rw [ks_nd] at hk
          rw [at_nd]
          by_cases c : k = x
          · rw [if_pos c, c, rd_upd s2 hmr.1 (by omega) (by omega) (by omega) hmr.1, if_pos rfl, sz_nd, hA, hB, flt_sz row n _ _ (by omega) (by omega), flt_sz row n _ _ (by omega) (by omega)]
            omega
          · rw [if_neg c]
            rcases List.mem_append.mp hk with g | g
            · have a1 := kA k g
              have a0 := kA0 k g
              have kn : k ∉ ks B := fun h => by have := (kB k h).1; omega
              rw [if_pos a1, rd_upd s2 hmr.1 (by omega) (by omega) (by omega) a0, if_neg c, g2s k a0 kn]
              exact z1 k g
            · rcases List.mem_cons.mp g with g | g
              · exact absurd g c
              · have a1 := kB k g
                rw [if_neg (by omega), rd_upd s2 hmr.1 (by omega) (by omega) (by omega) a1.2, if_neg c]
                exact z2 k g
        · intro k k0 kn
          rw [ks_nd] at kn
          have c1 : k ≠ x := fun h => kn (by simp [h])
          have c2 : k ∉ ks A := fun h => kn (by simp [h])
          have c3 : k ∉ ks B := fun h => kn (by simp [h])
          have F := f1 k k0 c2
          refine ⟨?_, ?_, ?_⟩
          · rw [g2l k k0 c3, if_neg c1, F.1]
          · rw [rd_upd r2 hmr.1 (by omega) (by omega) (by omega) k0, if_neg c1, g2r k k0 c3, F.2.1]
          · rw [rd_upd s2 hmr.1 (by omega) (by omega) (by omega) k0, if_neg c1, g2s k k0 c3, F.2.2]
