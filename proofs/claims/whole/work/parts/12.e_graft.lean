/-! a part of a tree is another one -/
def gr (x : Int) (u : Tr) : Tr → Tr
  | .nest y (.append l r) => if x = y then u else if x < y then nd y (gr x u l) r else nd y l (gr x u r)
  | _ => lf
theorem gr_lf (x : Int) (u : Tr) : gr x u lf = lf := rfl
theorem gr_nd (x : Int) (u : Tr) (y : Int) (l r : Tr) : gr x u (nd y l r) = if x = y then u else if x < y then nd y (gr x u l) r else nd y l (gr x u r) := rfl
/-- the one above a key -/
def pa (x : Int) : Int → Tr → Int
  | p, .nest y (.append l r) => if x = y then p else if x < y then pa x y l else pa x y r
  | _, _ => -1
theorem pa_lf (x p : Int) : pa x p lf = -1 := rfl
theorem pa_nd (x p y : Int) (l r : Tr) : pa x p (nd y l r) = if x = y then p else if x < y then pa x y l else pa x y r := rfl
/-- in which side a key is -/
theorem side {t l r : Tr} {y x lo hi : Int} (w1 : tr_wf l) (w2 : tr_wf r) (hb : bst lo hi (nd y l r)) (hx : x ∈ ks (nd y l r)) (h : x ≠ y) : (x < y ∧ x ∈ ks l) ∨ (¬ x < y ∧ x ∈ ks r) := by
  obtain ⟨a1, a2, a3, a4⟩ := bst_nd.mp hb
  rw [ks_nd] at hx
  rcases List.mem_append.mp hx with g | g
  · exact Or.inl ⟨(bst_mem l w1 lo y a3 x g).2, g⟩
  · rcases List.mem_cons.mp g with g | g
    · exact absurd g h
    · have := bst_mem r w2 y hi a4 x g
      exact Or.inr ⟨by omega, g⟩
theorem at_wf (x : Int) : ∀ t : Tr, tr_wf t → tr_wf (at_ x t) := tr_ind (by rw [at_lf]; trivial) (fun y l r w1 w2 h1 h2 => by
  rw [at_nd]
  by_cases e : x = y
  · rw [if_pos e]; exact ⟨w1, w2⟩
  · rw [if_neg e]
    by_cases g : x < y
    · rw [if_pos g]; exact h1
    · rw [if_neg g]; exact h2)
theorem at_sub (x j : Int) : ∀ t : Tr, tr_wf t → j ∈ ks (at_ x t) → j ∈ ks t := tr_ind (fun h => by rw [at_lf] at h; exact h) (fun y l r w1 w2 h1 h2 h => by
  rw [at_nd] at h
  by_cases e : x = y
  · rw [if_pos e] at h; exact h
  · rw [if_neg e] at h
    rw [ks_nd]
    by_cases g : x < y
    · rw [if_pos g] at h; simp [h1 h]
    · rw [if_neg g] at h; simp [h2 h])
theorem at_self {t : Tr} (w : tr_wf t) {lo hi x : Int} (hb : bst lo hi t) (hx : x ∈ ks t) : x ∈ ks (at_ x t) := by
  obtain ⟨l, r, e, -, -⟩ := at_some t w lo hi x hb hx
  rw [e, ks_nd]; simp
theorem at_le (x : Int) : ∀ t : Tr, tr_wf t → sz (at_ x t) ≤ sz t := tr_ind (by rw [at_lf]; omega) (fun y l r w1 w2 h1 h2 => by
  have := sz_nonneg l w1
  have := sz_nonneg r w2
  rw [at_nd]
  by_cases e : x = y
  · rw [if_pos e]; omega
  · rw [if_neg e, sz_nd]
    by_cases g : x < y
    · rw [if_pos g]; omega
    · rw [if_neg g]; omega)
theorem gr_wf (x : Int) {u : Tr} (wu : tr_wf u) : ∀ t : Tr, tr_wf t → tr_wf (gr x u t) := tr_ind trivial (fun y l r w1 w2 h1 h2 => by
  rw [gr_nd]
  by_cases e : x = y
  · rw [if_pos e]; exact wu
  · rw [if_neg e]
    by_cases g : x < y
    · rw [if_pos g]; exact ⟨h1, w2⟩
    · rw [if_neg g]; exact ⟨w1, h2⟩)
theorem gr_sz (x : Int) (u : Tr) : ∀ t : Tr, tr_wf t → ∀ lo hi : Int, bst lo hi t → x ∈ ks t → sz (gr x u t) = sz t - sz (at_ x t) + sz u := tr_ind (fun _ _ _ h => by rw [ks_lf] at h; cases h) (fun y l r w1 w2 h1 h2 lo hi hb hx => by
  obtain ⟨a1, a2, a3, a4⟩ := bst_nd.mp hb
  rw [gr_nd, at_nd]
  by_cases e : x = y
  · rw [if_pos e, if_pos e]; omega
  · rw [if_neg e, if_neg e]
    rcases side (t := lf) w1 w2 hb hx e with ⟨g, q⟩ | ⟨g, q⟩
    · rw [if_pos g, if_pos g, sz_nd, sz_nd, h1 lo y a3 q]; omega
    · rw [if_neg g, if_neg g, sz_nd, sz_nd, h2 y hi a4 q]; omega)
theorem gr_ks (x j : Int) (u : Tr) : ∀ t : Tr, tr_wf t → ∀ lo hi : Int, bst lo hi t → x ∈ ks t → (j ∈ ks (gr x u t) ↔ j ∈ ks u ∨ (j ∈ ks t ∧ j ∉ ks (at_ x t))) := tr_ind (fun _ _ _ h => by rw [ks_lf] at h; cases h) (fun y l r w1 w2 h1 h2 lo hi hb hx => by
  obtain ⟨a1, a2, a3, a4⟩ := bst_nd.mp hb
  rw [gr_nd, at_nd]
  by_cases e : x = y
  · rw [if_pos e, if_pos e]
    constructor
    · exact fun h => Or.inl h
    · rintro (h | ⟨h, h'⟩)
      · exact h
      · exact absurd h h'
  · rw [if_neg e, if_neg e]
    rcases side (t := lf) w1 w2 hb hx e with ⟨g, q⟩ | ⟨g, q⟩
    · rw [if_pos g, if_pos g, ks_nd, ks_nd, List.mem_append, List.mem_append, List.mem_cons, h1 lo y a3 q]
      constructor
      · rintro ((h | ⟨h, h'⟩) | h | h)
        · exact Or.inl h
        · exact Or.inr ⟨Or.inl h, h'⟩
        · refine Or.inr ⟨Or.inr (Or.inl h), fun z => ?_⟩
          have := bst_mem l w1 lo y a3 j (at_sub x j l w1 z)
          omega
        · refine Or.inr ⟨Or.inr (Or.inr h), fun z => ?_⟩
          have := bst_mem l w1 lo y a3 j (at_sub x j l w1 z)
          have := bst_mem r w2 y hi a4 j h
          omega
      · rintro (h | ⟨h | h | h, h'⟩)
        · exact Or.inl (Or.inl h)
        · exact Or.inl (Or.inr ⟨h, h'⟩)
        · exact Or.inr (Or.inl h)
        · exact Or.inr (Or.inr h)
    · rw [if_neg g, if_neg g, ks_nd, ks_nd, List.mem_append, List.mem_append, List.mem_cons, List.mem_cons, h2 y hi a4 q]
      constructor
      · rintro (h | h | h | ⟨h, h'⟩)
        · refine Or.inr ⟨Or.inl h, fun z => ?_⟩
          have := bst_mem r w2 y hi a4 j (at_sub x j r w2 z)
          have := bst_mem l w1 lo y a3 j h
          omega
        · refine Or.inr ⟨Or.inr (Or.inl h), fun z => ?_⟩
          have := bst_mem r w2 y hi a4 j (at_sub x j r w2 z)
          omega
        · exact Or.inl h
        · exact Or.inr ⟨Or.inr (Or.inr h), h'⟩
      · rintro (h | ⟨h | h | h, h'⟩)
        · exact Or.inr (Or.inr (Or.inl h))
        · exact Or.inl h
        · exact Or.inr (Or.inl h)
        · exact Or.inr (Or.inr (Or.inr ⟨h, h'⟩)))
theorem gr_bst (x : Int) {u : Tr} : ∀ t : Tr, tr_wf t → ∀ lo hi : Int, bst lo hi t → x ∈ ks t → (∀ a b, bst a b (at_ x t) → bst a b u) → bst lo hi (gr x u t) := tr_ind (fun _ _ _ h => by rw [ks_lf] at h; cases h) (fun y l r w1 w2 h1 h2 lo hi hb hx hu => by
  obtain ⟨a1, a2, a3, a4⟩ := bst_nd.mp hb
  rw [gr_nd]
  rw [at_nd] at hu
  by_cases e : x = y
  · rw [if_pos e]
    rw [if_pos e] at hu
    exact hu lo hi hb
  · rw [if_neg e]
    rw [if_neg e] at hu
    rcases side (t := lf) w1 w2 hb hx e with ⟨g, q⟩ | ⟨g, q⟩
    · rw [if_pos g]
      rw [if_pos g] at hu
      exact bst_nd.mpr ⟨a1, a2, h1 lo y a3 q hu, a4⟩
    · rw [if_neg g]
      rw [if_neg g] at hu
      exact bst_nd.mpr ⟨a1, a2, a3, h2 y hi a4 q hu⟩)
theorem gr_rt (x : Int) (u : Tr) {t : Tr} (w : tr_wf t) (hn : t ≠ lf) : rt (gr x u t) = if x = rt t then rt u else rt t := by
  rcases tr_cases w with rfl | ⟨y, l, r, rfl, -, -⟩
  · exact absurd rfl hn
  · rw [gr_nd, rt_nd]
    by_cases e : x = y
    · rw [if_pos e, if_pos e]
    · rw [if_neg e, if_neg e]
      by_cases g : x < y
      · rw [if_pos g, rt_nd]
      · rw [if_neg g, rt_nd]
/-- how great the parts are then -/
theorem gr_at (x j : Int) {u : Tr} (wu : tr_wf u) : ∀ t : Tr, tr_wf t → ∀ lo hi : Int, bst lo hi t → x ∈ ks t → (∀ i ∈ ks u, i ∈ ks (at_ x t)) → sz (at_ j (gr x u t)) = if j ∈ ks (at_ x t) then sz (at_ j u) else sz (at_ j t) + (if j ∈ wy x t then sz u - sz (at_ x t) else 0) := tr_ind (fun _ _ _ h => by rw [ks_lf] at h; cases h) (fun y l r w1 w2 h1 h2 lo hi hb hx hu => by
  obtain ⟨a1, a2, a3, a4⟩ := bst_nd.mp hb
  rw [gr_nd, at_nd x, wy_nd]
  rw [at_nd] at hu
  by_cases e : x = y
  · rw [if_pos e, if_pos e, if_pos e]
    rw [if_pos e] at hu
    by_cases hj : j ∈ ks (nd y l r)
    · rw [if_pos hj]
    · have hy : j ≠ y := fun h => hj (by rw [ks_nd]; simp [h])
      rw [if_neg hj, if_neg (by simp [hy]), at_none (nd y l r) ⟨w1, w2⟩ j hj, at_none u wu j (fun h => hj (hu j h))]
      rfl
  · rw [if_neg e, if_neg e, if_neg e]
    rw [if_neg e] at hu
    rcases side (t := lf) w1 w2 hb hx e with ⟨g, q⟩ | ⟨g, q⟩
    · rw [if_pos g, if_pos g, if_pos g, at_nd, at_nd]
      rw [if_pos g] at hu
      have hs := gr_sz x u l w1 lo y a3 q
      have hm : j ∈ ks (at_ x l) → j < y := fun h => (bst_mem l w1 lo y a3 j (at_sub x j l w1 h)).2
      have hw : j ∈ wy x l → j < y := fun h => (bst_mem l w1 lo y a3 j (wy_sub l w1 x j h)).2
      by_cases c : j = y
      · rw [if_pos c, if_pos c, if_neg (fun h => by have := hm h; omega), if_pos (by simp [c]), sz_nd, sz_nd, hs]
        omega
      · rw [if_neg c, if_neg c]
        by_cases d : j < y
        · rw [if_pos d, if_pos d, h1 lo y a3 q hu]
          simp [c]
        · rw [if_neg d, if_neg d, if_neg (fun h => d (hm h)), if_neg (by simp [c]; exact fun h => d (hw h))]
          omega
    · rw [if_neg g, if_neg g, if_neg g, at_nd, at_nd]
      rw [if_neg g] at hu
      have hs := gr_sz x u r w2 y hi a4 q
      have hm : j ∈ ks (at_ x r) → y < j := fun h => (bst_mem r w2 y hi a4 j (at_sub x j r w2 h)).1
      have hw : j ∈ wy x r → y < j := fun h => (bst_mem r w2 y hi a4 j (wy_sub r w2 x j h)).1
      by_cases c : j = y
      · rw [if_pos c, if_pos c, if_neg (fun h => by have := hm h; omega), if_pos (by simp [c]), sz_nd, sz_nd, hs]
        omega
      · rw [if_neg c, if_neg c]
        by_cases d : j < y
        · rw [if_pos d, if_pos d, if_neg (fun h => by have := hm h; omega), if_neg (by simp [c]; exact fun h => by have := hw h; omega)]
          omega
        · rw [if_neg d, if_neg d, h2 y hi a4 q hu]
          simp [c])
theorem pa_in (x : Int) : ∀ t : Tr, tr_wf t → ∀ lo hi p : Int, bst lo hi t → x ∈ ks t → (x = rt t → pa x p t = p) ∧ (x ≠ rt t → pa x p t ∈ ks t) := tr_ind (fun _ _ _ _ h => by rw [ks_lf] at h; cases h) (fun y l r w1 w2 h1 h2 lo hi p hb hx => by
  obtain ⟨a1, a2, a3, a4⟩ := bst_nd.mp hb
  rw [pa_nd, rt_nd]
  refine ⟨fun e => by rw [if_pos e], fun e => ?_⟩
  rw [if_neg e, ks_nd]
  rcases side (t := lf) w1 w2 hb hx e with ⟨g, q⟩ | ⟨g, q⟩
  · rw [if_pos g]
    have := h1 lo y y a3 q
    by_cases c : x = rt l
    · rw [this.1 c]; simp
    · simp [this.2 c]
  · rw [if_neg g]
    have := h2 y hi y a4 q
    by_cases c : x = rt r
    · rw [this.1 c]; simp
    · simp [this.2 c])
theorem pa_or {x : Int} {t : Tr} (w : tr_wf t) {lo hi : Int} (p : Int) (hb : bst lo hi t) (hx : x ∈ ks t) : pa x p t = p ∨ pa x p t ∈ ks t := by
  by_cases c : x = rt t
  · exact Or.inl ((pa_in x t w lo hi p hb hx).1 c)
  · exact Or.inr ((pa_in x t w lo hi p hb hx).2 c)
/-- the links then -/
theorem gr_rp (x : Int) {u : Tr} {L R L' R' : Int → Int} (hu : rp L' R' u) : ∀ t : Tr, tr_wf t → ∀ lo hi p : Int, bst lo hi t → x ∈ ks t → rp L R t →
    (∀ j ∈ ks t, j ∉ ks (at_ x t) → L' j = (if j = pa x p t ∧ x < j then rt u else L j) ∧ R' j = (if j = pa x p t ∧ j < x then rt u else R j)) → rp L' R' (gr x u t) := tr_ind (fun _ _ _ _ h => by rw [ks_lf] at h; cases h) (fun y l r w1 w2 h1 h2 lo hi p hb hx hr hf => by
  obtain ⟨a1, a2, a3, a4⟩ := bst_nd.mp hb
  obtain ⟨b1, b2, b3, b4⟩ := rp_nd.mp hr
  rw [gr_nd]
  rw [at_nd, pa_nd] at hf
  by_cases e : x = y
  · rw [if_pos e]; exact hu
  · rw [if_neg e]
    simp only [if_neg e] at hf
    have yl : y ∉ ks l := fun h => by have := bst_mem l w1 lo y a3 y h; omega
    have yr : y ∉ ks r := fun h => by have := bst_mem r w2 y hi a4 y h; omega
    have pl : ∀ j ∈ ks l, j ∈ ks (nd y l r) := fun j h => by rw [ks_nd]; simp [h]
    have pr : ∀ j ∈ ks r, j ∈ ks (nd y l r) := fun j h => by rw [ks_nd]; simp [h]
    rcases side (t := lf) w1 w2 hb hx e with ⟨g, q⟩ | ⟨g, q⟩
    · rw [if_pos g]
      simp only [if_pos g] at hf
      have fy := hf y (by rw [ks_nd]; simp) (fun h => yl (at_sub x y l w1 h))
      have hrt : l ≠ lf := fun h => by rw [h, ks_lf] at q; cases q
      have pq := pa_in x l w1 lo y y a3 q
      have po := pa_or (x := x) w1 y a3 q
      refine rp_nd.mpr ⟨?_, ?_, ?_, ?_⟩
      · rw [fy.1, gr_rt x u w1 hrt, b1]
        by_cases c : x = rt l
        · rw [if_pos c, if_pos ⟨(pq.1 c).symm, g⟩]
        · have := pq.2 c
          have hne : ¬ (y = pa x y l ∧ x < y) := fun h => yl (Eq.mpr (congrArg (fun z => z ∈ ks l) h.1) this)
          rw [if_neg c, if_neg hne]
      · rw [fy.2, if_neg (by omega), b2]
      · exact h1 lo y y a3 q b3 (fun j hj hn => hf j (pl j hj) hn)
      · refine rp_frame r w2 (fun j hj => ?_) b4
        have jr := bst_mem r w2 y hi a4 j hj
        have hz := hf j (pr j hj) (fun h => by
          have := bst_mem l w1 lo y a3 j (at_sub x j l w1 h)
          omega)
        have hne : j ≠ pa x y l := fun h => by
          rcases po with z | z
          · omega
          · have := bst_mem l w1 lo y a3 _ z
            omega
        rw [if_neg (fun h => hne h.1), if_neg (fun h => hne h.1)] at hz
        exact hz
    · rw [if_neg g]
      simp only [if_neg g] at hf
      have fy := hf y (by rw [ks_nd]; simp) (fun h => yr (at_sub x y r w2 h))
      have hrt : r ≠ lf := fun h => by rw [h, ks_lf] at q; cases q
      have pq := pa_in x r w2 y hi y a4 q
      have po := pa_or (x := x) w2 y a4 q
      refine rp_nd.mpr ⟨?_, ?_, ?_, ?_⟩
      · rw [fy.1, if_neg (by omega), b1]
      · rw [fy.2, gr_rt x u w2 hrt, b2]
        by_cases c : x = rt r
        · rw [if_pos c, if_pos ⟨(pq.1 c).symm, by omega⟩]
        · have := pq.2 c
          have hne : ¬ (y = pa x y r ∧ y < x) := fun h => yr (Eq.mpr (congrArg (fun z => z ∈ ks r) h.1) this)
          rw [if_neg c, if_neg hne]
      · refine rp_frame l w1 (fun j hj => ?_) b3
        have jr := bst_mem l w1 lo y a3 j hj
        have hz := hf j (pl j hj) (fun h => by
          have := bst_mem r w2 y hi a4 j (at_sub x j r w2 h)
          omega)
        have hne : j ≠ pa x y r := fun h => by
          rcases po with z | z
          · omega
          · have := bst_mem r w2 y hi a4 _ z
            omega
        rw [if_neg (fun h => hne h.1), if_neg (fun h => hne h.1)] at hz
        exact hz
      · exact h2 y hi y a4 q b4 (fun j hj hn => hf j (pr j hj) hn))
/-- the ones above then -/
theorem gr_ra (x : Int) {u : Tr} {U U' : Int → Int} : ∀ t : Tr, tr_wf t → ∀ lo hi p : Int, bst lo hi t → x ∈ ks t → ra U p t → ra U' (pa x p t) u → (∀ j ∈ ks t, j ∉ ks (at_ x t) → U' j = U j) → ra U' p (gr x u t) := tr_ind (fun _ _ _ _ h => by rw [ks_lf] at h; cases h) (fun y l r w1 w2 h1 h2 lo hi p hb hx hr hu hf => by
  obtain ⟨a1, a2, a3, a4⟩ := bst_nd.mp hb
  obtain ⟨b1, b2, b3⟩ := ra_nd.mp hr
  rw [gr_nd]
  rw [at_nd] at hf
  rw [pa_nd] at hu
  by_cases e : x = y
  · rw [if_pos e]
    rw [if_pos e] at hu
    exact hu
  · rw [if_neg e]
    rw [if_neg e] at hf hu
    have yl : y ∉ ks l := fun h => by have := bst_mem l w1 lo y a3 y h; omega
    have yr : y ∉ ks r := fun h => by have := bst_mem r w2 y hi a4 y h; omega
    have pl : ∀ j ∈ ks l, j ∈ ks (nd y l r) := fun j h => by rw [ks_nd]; simp [h]
    have pr : ∀ j ∈ ks r, j ∈ ks (nd y l r) := fun j h => by rw [ks_nd]; simp [h]
    rcases side (t := lf) w1 w2 hb hx e with ⟨g, q⟩ | ⟨g, q⟩
    · rw [if_pos g]
      rw [if_pos g] at hf hu
      refine ra_nd.mpr ⟨by rw [hf y (by rw [ks_nd]; simp) (fun h => yl (at_sub x y l w1 h)), b1], h1 lo y y a3 q b2 hu (fun j hj hn => hf j (pl j hj) hn), ra_frame r w2 (fun j hj => hf j (pr j hj) (fun h => ?_)) b3⟩
      have := bst_mem l w1 lo y a3 j (at_sub x j l w1 h)
      have := bst_mem r w2 y hi a4 j hj
      omega
    · rw [if_neg g]
      rw [if_neg g] at hf hu
      refine ra_nd.mpr ⟨by rw [hf y (by rw [ks_nd]; simp) (fun h => yr (at_sub x y r w2 h)), b1], ra_frame l w1 (fun j hj => hf j (pl j hj) (fun h => ?_)) b2, h2 y hi y a4 q b3 hu (fun j hj hn => hf j (pr j hj) hn)⟩
      have := bst_mem r w2 y hi a4 j (at_sub x j r w2 h)
      have := bst_mem l w1 lo y a3 j hj
      omega)
/-- the way to a key that is there: the one above it stands next to its end -/
theorem wy_there (x : Int) : ∀ t : Tr, tr_wf t → ∀ lo hi p : Int, bst lo hi t → x ∈ ks t → ∃ xs, wy x t = xs ++ [x] ∧ pa x p t = xs.getLastD p := tr_ind (fun _ _ _ _ h => by rw [ks_lf] at h; cases h) (fun y l r w1 w2 h1 h2 lo hi p hb hx => by
  obtain ⟨a1, a2, a3, a4⟩ := bst_nd.mp hb
  rw [wy_nd, pa_nd]
  by_cases e : x = y
  · rw [if_pos e, if_pos e]
    exact ⟨[], by rw [e]; rfl, rfl⟩
  · rw [if_neg e, if_neg e]
    rcases side (t := lf) w1 w2 hb hx e with ⟨g, q⟩ | ⟨g, q⟩
    · obtain ⟨xs, c1, c2⟩ := h1 lo y y a3 q
      rw [if_pos g, if_pos g, c1, c2]
      exact ⟨y :: xs, rfl, by rw [List.getLastD_cons]⟩
    · obtain ⟨xs, c1, c2⟩ := h2 y hi y a4 q
      rw [if_neg g, if_neg g, c1, c2]
      exact ⟨y :: xs, rfl, by rw [List.getLastD_cons]⟩)
