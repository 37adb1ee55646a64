/-! a key less: two sides become one -/
/-- the least key -/
def mn : Tr → Int
  | .nest x (.append l _) => if em l = true then x else mn l
  | _ => -1
/-- all but the least -/
def dm : Tr → Tr
  | .nest x (.append l r) => if em l = true then r else nd x (dm l) r
  | _ => lf
/-- those above the least, from the top -/
def sp : Tr → List Int
  | .nest x (.append l _) => if em l = true then [] else x :: sp l
  | _ => []
/-- the one right above the least -/
def ov : Int → Tr → Int
  | p, .nest x (.append l _) => if em l = true then p else ov x l
  | p, _ => p
theorem mn_nd (x : Int) (l r : Tr) : mn (nd x l r) = if em l = true then x else mn l := rfl
theorem dm_nd (x : Int) (l r : Tr) : dm (nd x l r) = if em l = true then r else nd x (dm l) r := rfl
theorem sp_nd (x : Int) (l r : Tr) : sp (nd x l r) = if em l = true then [] else x :: sp l := rfl
theorem ov_nd (p x : Int) (l r : Tr) : ov p (nd x l r) = if em l = true then p else ov x l := rfl
theorem mn_mem : ∀ t : Tr, tr_wf t → ¬ em t = true → mn t ∈ ks t := tr_ind (fun h => absurd em_lf h) (fun x l r w1 w2 h1 h2 _ => by
  rw [mn_nd, ks_nd]
  by_cases e : em l = true
  · rw [if_pos e]; simp
  · rw [if_neg e]; simp [h1 e])
theorem dm_wf : ∀ t : Tr, tr_wf t → tr_wf (dm t) := tr_ind trivial (fun x l r w1 w2 h1 h2 => by
  rw [dm_nd]
  by_cases e : em l = true
  · rw [if_pos e]; exact w2
  · rw [if_neg e]; exact ⟨h1, w2⟩)
theorem dm_sz : ∀ t : Tr, tr_wf t → ¬ em t = true → sz (dm t) = sz t - 1 := tr_ind (fun h => absurd em_lf h) (fun x l r w1 w2 h1 h2 _ => by
  rw [dm_nd, sz_nd]
  by_cases e : em l = true
  · rw [if_pos e, em_eq w1 e, sz_lf]; omega
  · rw [if_neg e, sz_nd, h1 e]; omega)
theorem mn_le : ∀ t : Tr, tr_wf t → ∀ lo hi : Int, bst lo hi t → ∀ j ∈ ks t, mn t ≤ j := tr_ind (fun _ _ _ j h => by rw [ks_lf] at h; cases h) (fun x l r w1 w2 h1 h2 lo hi hb j hj => by
  obtain ⟨a1, a2, a3, a4⟩ := bst_nd.mp hb
  rw [mn_nd]
  rw [ks_nd] at hj
  by_cases e : em l = true
  · rw [if_pos e]
    rw [em_eq w1 e, ks_lf] at hj
    rcases List.mem_cons.mp hj with z | z
    · omega
    · have := bst_mem r w2 x hi a4 j z; omega
  · rw [if_neg e]
    rcases List.mem_append.mp hj with z | z
    · exact h1 lo x a3 j z
    · have q := bst_mem l w1 lo x a3 _ (mn_mem l w1 e)
      rcases List.mem_cons.mp z with z | z
      · omega
      · have := bst_mem r w2 x hi a4 j z; omega)
theorem dm_ks (j : Int) : ∀ t : Tr, tr_wf t → ∀ lo hi : Int, bst lo hi t → (j ∈ ks (dm t) ↔ j ∈ ks t ∧ j ≠ mn t) := tr_ind (fun _ _ _ => by
  show j ∈ ks lf ↔ j ∈ ks lf ∧ _
  rw [ks_lf]; simp) (fun x l r w1 w2 h1 h2 lo hi hb => by
  obtain ⟨a1, a2, a3, a4⟩ := bst_nd.mp hb
  rw [dm_nd, mn_nd, ks_nd]
  by_cases e : em l = true
  · rw [if_pos e, if_pos e, em_eq w1 e, ks_lf]
    constructor
    · intro z
      have := bst_mem r w2 x hi a4 j z
      exact ⟨by simp [z], by omega⟩
    · rintro ⟨z, z'⟩
      rcases List.mem_cons.mp z with z | z
      · exact absurd z z'
      · exact z
  · rw [if_neg e, if_neg e, ks_nd, List.mem_append, List.mem_append, h1 lo x a3]
    have q := bst_mem l w1 lo x a3 _ (mn_mem l w1 e)
    constructor
    · rintro (⟨z, z'⟩ | z)
      · exact ⟨Or.inl z, z'⟩
      · refine ⟨Or.inr z, ?_⟩
        rcases List.mem_cons.mp z with z | z
        · omega
        · have := bst_mem r w2 x hi a4 j z; omega
    · rintro ⟨z | z, z'⟩
      · exact Or.inl ⟨z, z'⟩
      · exact Or.inr z)
theorem dm_bst : ∀ t : Tr, tr_wf t → ∀ lo hi : Int, bst lo hi t → ¬ em t = true → bst (mn t) hi (dm t) := tr_ind (fun _ _ _ h => absurd em_lf h) (fun x l r w1 w2 h1 h2 lo hi hb _ => by
  obtain ⟨a1, a2, a3, a4⟩ := bst_nd.mp hb
  rw [dm_nd, mn_nd]
  by_cases e : em l = true
  · rw [if_pos e, if_pos e]; exact a4
  · rw [if_neg e, if_neg e]
    have q := bst_mem l w1 lo x a3 _ (mn_mem l w1 e)
    exact bst_nd.mpr ⟨q.2, a2, h1 lo x a3 e, a4⟩)
theorem sp_sub : ∀ t : Tr, tr_wf t → ∀ lo hi : Int, bst lo hi t → ∀ j ∈ sp t, j ∈ ks t ∧ mn t < j := tr_ind (fun _ _ _ j h => by cases h) (fun x l r w1 w2 h1 h2 lo hi hb j hj => by
  obtain ⟨a1, a2, a3, a4⟩ := bst_nd.mp hb
  rw [sp_nd] at hj
  rw [mn_nd, ks_nd]
  by_cases e : em l = true
  · rw [if_pos e] at hj; cases hj
  · rw [if_neg e] at hj
    rw [if_neg e]
    have q := bst_mem l w1 lo x a3 _ (mn_mem l w1 e)
    rcases List.mem_cons.mp hj with z | z
    · exact ⟨by simp [z], by omega⟩
    · have := h1 lo x a3 j z
      exact ⟨by simp [this.1], this.2⟩)
theorem sp_nodup : ∀ t : Tr, tr_wf t → ∀ lo hi : Int, bst lo hi t → (sp t).Nodup := tr_ind (fun _ _ _ => List.nodup_nil) (fun x l r w1 w2 h1 h2 lo hi hb => by
  obtain ⟨a1, a2, a3, a4⟩ := bst_nd.mp hb
  rw [sp_nd]
  by_cases e : em l = true
  · rw [if_pos e]; exact List.nodup_nil
  · rw [if_neg e]
    refine List.nodup_cons.mpr ⟨fun z => ?_, h1 lo x a3⟩
    have := bst_mem l w1 lo x a3 x (sp_sub l w1 lo x a3 x z).1
    omega)
theorem sp_len : ∀ t : Tr, tr_wf t → ((sp t).length : Int) ≤ sz t := tr_ind (by show ((0 : Nat) : Int) ≤ 0; omega) (fun x l r w1 w2 h1 h2 => by
  have := sz_nonneg l w1
  have := sz_nonneg r w2
  rw [sp_nd, sz_nd]
  by_cases e : em l = true
  · rw [if_pos e, List.length_nil]; omega
  · rw [if_neg e, List.length_cons]; omega)
theorem ov_in : ∀ t : Tr, tr_wf t → ∀ p : Int, ¬ em t = true → ov p t = p ∨ ov p t ∈ ks t := tr_ind (fun _ h => absurd em_lf h) (fun x l r w1 w2 h1 h2 p _ => by
  rw [ov_nd, ks_nd]
  by_cases e : em l = true
  · rw [if_pos e]; exact Or.inl rfl
  · rw [if_neg e]
    rcases h1 x e with z | z
    · right; rw [z]; simp
    · right; simp [z])
/-- the one right above the least one is above it: not it -/
theorem ov_gt : ∀ t : Tr, tr_wf t → ∀ lo hi p : Int, bst lo hi t → ¬ em t = true → ov p t = p ∨ (ov p t ∈ ks t ∧ mn t < ov p t) := tr_ind (fun _ _ _ _ h => absurd em_lf h) (fun x l r w1 w2 h1 h2 lo hi p hb _ => by
  obtain ⟨a1, a2, a3, a4⟩ := bst_nd.mp hb
  rw [ov_nd, mn_nd, ks_nd]
  by_cases e : em l = true
  · rw [if_pos e]; exact Or.inl rfl
  · rw [if_neg e, if_neg e]
    have q := bst_mem l w1 lo x a3 _ (mn_mem l w1 e)
    rcases h1 lo x x a3 e with z | ⟨z, z'⟩
    · right; rw [z]; exact ⟨by simp, q.2⟩
    · right; exact ⟨by simp [z], z'⟩)
theorem dm_at (j : Int) : ∀ t : Tr, tr_wf t → ∀ lo hi : Int, bst lo hi t → ¬ em t = true → sz (at_ j (dm t)) = if j = mn t then 0 else sz (at_ j t) - (if j ∈ sp t then 1 else 0) := tr_ind (fun _ _ _ h => absurd em_lf h) (fun x l r w1 w2 h1 h2 lo hi hb _ => by
  obtain ⟨a1, a2, a3, a4⟩ := bst_nd.mp hb
  rw [dm_nd, mn_nd, sp_nd, at_nd]
  by_cases e : em l = true
  · rw [if_pos e, if_pos e, if_pos e]
    by_cases c : j = x
    · rw [if_pos c, at_none r w2 j (fun z => by have := bst_mem r w2 x hi a4 j z; omega), sz_lf]
    · rw [if_neg c, if_neg c]
      by_cases d : j < x
      · rw [if_pos d, em_eq w1 e, at_lf, at_none r w2 j (fun z => by have := bst_mem r w2 x hi a4 j z; omega), sz_lf]; simp
      · rw [if_neg d]; simp
  · rw [if_neg e, if_neg e, if_neg e, at_nd]
    have q := bst_mem l w1 lo x a3 _ (mn_mem l w1 e)
    by_cases c : j = x
    · rw [if_pos c, if_pos c, if_neg (by omega), if_pos (by simp [c]), sz_nd, sz_nd, dm_sz l w1 e]; omega
    · rw [if_neg c, if_neg c]
      by_cases d : j < x
      · rw [if_pos d, if_pos d, h1 lo x a3 e]
        simp [c]
      · rw [if_neg d, if_neg d, if_neg (by omega), if_neg (by
          rw [List.mem_cons]
          rintro (z | z)
          · exact c z
          · have := bst_mem l w1 lo x a3 j (sp_sub l w1 lo x a3 j z).1; omega)]
        omega)
theorem rt_mn {x : Int} {l r : Tr} (w1 : tr_wf l) {lo hi : Int} (hb : bst lo hi (nd x l r)) : rt (nd x l r) = mn (nd x l r) ↔ em l = true := by
  obtain ⟨a1, a2, a3, a4⟩ := bst_nd.mp hb
  rw [rt_nd, mn_nd]
  by_cases e : em l = true
  · rw [if_pos e]; exact ⟨fun _ => e, fun _ => rfl⟩
  · rw [if_neg e]
    have q := bst_mem l w1 lo x a3 _ (mn_mem l w1 e)
    exact ⟨fun z => by omega, fun z => absurd z e⟩
theorem dm_rt {t : Tr} (w : tr_wf t) {L R : Int → Int} (hp : rp L R t) {lo hi : Int} (hb : bst lo hi t) (hn : ¬ em t = true) : rt (dm t) = if rt t = mn t then R (mn t) else rt t := by
  rcases tr_cases w with rfl | ⟨x, l, r, rfl, w1, w2⟩
  · exact absurd em_lf hn
  · obtain ⟨b1, b2, b3, b4⟩ := rp_nd.mp hp
    have q := rt_mn w1 hb
    by_cases e : em l = true
    · rw [if_pos (q.mpr e), dm_nd, mn_nd, if_pos e, if_pos e, b2]
    · rw [if_neg (fun z => e (q.mp z)), dm_nd, if_neg e, rt_nd, rt_nd]
theorem ov_self {t : Tr} (w : tr_wf t) {lo hi : Int} (hb : bst lo hi t) (hn : ¬ em t = true) {p : Int} (hp : p ∉ ks t) : ov p t = p ↔ rt t = mn t := by
  rcases tr_cases w with rfl | ⟨x, l, r, rfl, w1, w2⟩
  · exact absurd em_lf hn
  · rw [rt_mn w1 hb, ov_nd]
    by_cases e : em l = true
    · rw [if_pos e]; exact ⟨fun _ => e, fun _ => rfl⟩
    · rw [if_neg e]
      refine ⟨fun z => absurd ?_ hp, fun z => absurd z e⟩
      rw [← z, ks_nd]
      rcases ov_in l w1 x e with q | q
      · rw [q]; simp
      · simp [q]
theorem r_mn {L R : Int → Int} : ∀ t : Tr, tr_wf t → ¬ em t = true → rp L R t → R (mn t) = -1 ∨ R (mn t) ∈ ks t := tr_ind (fun h => absurd em_lf h) (fun x l r w1 w2 h1 h2 _ hp => by
  obtain ⟨b1, b2, b3, b4⟩ := rp_nd.mp hp
  rw [mn_nd, ks_nd]
  by_cases e : em l = true
  · rw [if_pos e, b2]
    by_cases g : em r = true
    · rw [em_eq w2 g]; exact Or.inl rfl
    · right; simp [rt_mem w2 (em_ne w2 g)]
  · rw [if_neg e]
    rcases h1 e b3 with z | z
    · exact Or.inl z
    · right; simp [z])
theorem dm_rp {L R L' R' : Int → Int} : ∀ t : Tr, tr_wf t → ∀ lo hi p : Int, bst lo hi t → ¬ em t = true → p ∉ ks t → rp L R t → (∀ j ∈ ks t, j ≠ mn t → L' j = (if j = ov p t then R (mn t) else L j) ∧ R' j = R j) → rp L' R' (dm t) := tr_ind (fun _ _ _ _ h => absurd em_lf h) (fun x l r w1 w2 h1 h2 lo hi p hb _ hpn hp hf => by
  obtain ⟨a1, a2, a3, a4⟩ := bst_nd.mp hb
  obtain ⟨b1, b2, b3, b4⟩ := rp_nd.mp hp
  have pl : ∀ j ∈ ks l, j ∈ ks (nd x l r) := fun j h => by rw [ks_nd]; simp [h]
  have pr : ∀ j ∈ ks r, j ∈ ks (nd x l r) := fun j h => by rw [ks_nd]; simp [h]
  rw [mn_nd, ov_nd] at hf
  rw [dm_nd]
  by_cases e : em l = true
  · rw [if_pos e]
    simp only [if_pos e] at hf
    refine rp_frame r w2 (fun j hj => ?_) b4
    have := bst_mem r w2 x hi a4 j hj
    have q := hf j (pr j hj) (by omega)
    rw [if_neg (fun z => hpn (by rw [← z]; exact pr j hj))] at q
    exact q
  · rw [if_neg e]
    simp only [if_neg e] at hf
    have ml := bst_mem l w1 lo x a3 _ (mn_mem l w1 e)
    have xl : x ∉ ks l := fun h => by have := bst_mem l w1 lo x a3 x h; omega
    have fx := hf x (by rw [ks_nd]; simp) (by omega)
    have os := ov_self w1 a3 e xl
    refine rp_nd.mpr ⟨?_, by rw [fx.2, b2], h1 lo x x a3 e xl b3 (fun j hj hm => hf j (pl j hj) hm), ?_⟩
    · rw [fx.1, dm_rt w1 b3 a3 e]
      by_cases c : rt l = mn l
      · rw [if_pos c, if_pos (os.mpr c).symm]
      · rw [if_neg c, if_neg (fun z => c (os.mp z.symm)), b1]
    · refine rp_frame r w2 (fun j hj => ?_) b4
      have q1 := bst_mem r w2 x hi a4 j hj
      have q := hf j (pr j hj) (by omega)
      rw [if_neg (fun z => by
        rcases ov_in l w1 x e with o | o
        · omega
        · have := bst_mem l w1 lo x a3 _ o; omega)] at q
      exact q)
theorem ra_re {U U' : Int → Int} {p q : Int} {t : Tr} (w : tr_wf t) {lo hi : Int} (hb : bst lo hi t) (h : ra U q t) (h1 : ¬ em t = true → U' (rt t) = p) (h2 : ∀ j ∈ ks t, j ≠ rt t → U' j = U j) : ra U' p t := by
  rcases tr_cases w with rfl | ⟨x, l, r, rfl, w1, w2⟩
  · exact ra_lf _ _
  · obtain ⟨a1, a2, a3, a4⟩ := bst_nd.mp hb
    obtain ⟨b1, b2, b3⟩ := ra_nd.mp h
    rw [rt_nd] at h1 h2
    refine ra_nd.mpr ⟨h1 (em_nn _ _ _), ra_frame l w1 (fun j hj => h2 j (by rw [ks_nd]; simp [hj]) ?_) b2, ra_frame r w2 (fun j hj => h2 j (by rw [ks_nd]; simp [hj]) ?_) b3⟩
    · have := bst_mem l w1 lo x a3 j hj; omega
    · have := bst_mem r w2 x hi a4 j hj; omega
theorem dm_ra {L R U U' : Int → Int} : ∀ t : Tr, tr_wf t → ∀ lo hi p : Int, bst lo hi t → -1 ≤ lo → ¬ em t = true → rp L R t → ra U p t → (∀ j ∈ ks t, j ≠ mn t → U' j = (if j = R (mn t) then ov p t else U j)) → ra U' p (dm t) := tr_ind (fun _ _ _ _ _ h => absurd em_lf h) (fun x l r w1 w2 h1 h2 lo hi p hb hlo _ hp ha hf => by
  obtain ⟨a1, a2, a3, a4⟩ := bst_nd.mp hb
  obtain ⟨b1, b2, b3, b4⟩ := rp_nd.mp hp
  obtain ⟨c1, c2, c3⟩ := ra_nd.mp ha
  have pl : ∀ j ∈ ks l, j ∈ ks (nd x l r) := fun j h => by rw [ks_nd]; simp [h]
  have pr : ∀ j ∈ ks r, j ∈ ks (nd x l r) := fun j h => by rw [ks_nd]; simp [h]
  rw [mn_nd, ov_nd] at hf
  rw [dm_nd]
  by_cases e : em l = true
  · rw [if_pos e]
    simp only [if_pos e] at hf
    refine ra_re w2 a4 c3 (fun g => ?_) (fun j hj hn => ?_)
    · have hm := rt_mem w2 (em_ne w2 g)
      have := bst_mem r w2 x hi a4 _ hm
      rw [hf _ (pr _ hm) (by omega), if_pos b2.symm]
    · have := bst_mem r w2 x hi a4 _ hj
      rw [hf j (pr j hj) (by omega), if_neg (fun z => hn (by rw [z, b2]))]
  · rw [if_neg e]
    simp only [if_neg e] at hf
    have ml := bst_mem l w1 lo x a3 _ (mn_mem l w1 e)
    have rm := r_mn l w1 e b3
    have big : ∀ j, x ≤ j → j ≠ R (mn l) := fun j hj z => by
      rcases rm with o | o
      · omega
      · have := bst_mem l w1 lo x a3 _ o; omega
    refine ra_nd.mpr ⟨?_, h1 lo x x a3 hlo e b3 c2 (fun j hj hm => hf j (pl j hj) hm), ra_frame r w2 (fun j hj => ?_) c3⟩
    · rw [hf x (by rw [ks_nd]; simp) (by omega), if_neg (big x (by omega)), c1]
    · have := bst_mem r w2 x hi a4 _ hj
      rw [hf j (pr j hj) (by omega), if_neg (big j (by omega))])
/-- two sides as one -/
def jn (l r : Tr) : Tr := if em l = true then r else if em r = true then l else nd (mn r) l (dm r)
/-- a part without its top -/
def jo : Tr → Tr
  | .nest _ (.append l r) => jn l r
  | _ => lf
theorem jo_nd (k : Int) (l r : Tr) : jo (nd k l r) = jn l r := rfl
theorem jn_wf {l r : Tr} (w1 : tr_wf l) (w2 : tr_wf r) : tr_wf (jn l r) := by
  unfold jn
  by_cases e : em l = true
  · rw [if_pos e]; exact w2
  · rw [if_neg e]
    by_cases g : em r = true
    · rw [if_pos g]; exact w1
    · rw [if_neg g]; exact ⟨w1, dm_wf r w2⟩
theorem jn_sz {l r : Tr} (w1 : tr_wf l) (w2 : tr_wf r) : sz (jn l r) = sz l + sz r := by
  unfold jn
  by_cases e : em l = true
  · rw [if_pos e, em_eq w1 e, sz_lf]; omega
  · rw [if_neg e]
    by_cases g : em r = true
    · rw [if_pos g, em_eq w2 g, sz_lf]; omega
    · rw [if_neg g, sz_nd, dm_sz r w2 g]; omega
theorem jn_ks {l r : Tr} (w1 : tr_wf l) (w2 : tr_wf r) {k lo hi : Int} (hb : bst lo hi (nd k l r)) (j : Int) : j ∈ ks (jn l r) ↔ j ∈ ks l ∨ j ∈ ks r := by
  obtain ⟨a1, a2, a3, a4⟩ := bst_nd.mp hb
  unfold jn
  by_cases e : em l = true
  · rw [if_pos e, em_eq w1 e, ks_lf]; simp
  · rw [if_neg e]
    by_cases g : em r = true
    · rw [if_pos g, em_eq w2 g, ks_lf]; simp
    · rw [if_neg g, ks_nd, List.mem_append, List.mem_cons, dm_ks j r w2 k hi a4]
      constructor
      · rintro (z | z | z)
        · exact Or.inl z
        · right; rw [z]; exact mn_mem r w2 g
        · exact Or.inr z.1
      · rintro (z | z)
        · exact Or.inl z
        · by_cases c : j = mn r
          · exact Or.inr (Or.inl c)
          · exact Or.inr (Or.inr ⟨z, c⟩)
theorem jn_bst {l r : Tr} (w1 : tr_wf l) (w2 : tr_wf r) {k lo hi : Int} (hb : bst lo hi (nd k l r)) : bst lo hi (jn l r) := by
  obtain ⟨a1, a2, a3, a4⟩ := bst_nd.mp hb
  unfold jn
  by_cases e : em l = true
  · rw [if_pos e]; exact bst_wide r w2 k hi lo hi (by omega) (by omega) a4
  · rw [if_neg e]
    by_cases g : em r = true
    · rw [if_pos g]; exact bst_wide l w1 lo k lo hi (by omega) (by omega) a3
    · rw [if_neg g]
      have q := bst_mem r w2 k hi a4 _ (mn_mem r w2 g)
      exact bst_nd.mpr ⟨by omega, q.2, bst_wide l w1 lo k lo _ (by omega) (by omega) a3, dm_bst r w2 k hi a4 g⟩
/-- a tree without a key -/
def dl (k : Int) (t : Tr) : Tr := gr k (jo (at_ k t)) t
