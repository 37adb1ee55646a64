/-! one more key in a tree -/
/-- is it the empty one -/
def em : Tr → Bool
  | .nest _ (.append _ _) => false
  | _ => true
theorem em_lf : em lf = true := rfl
theorem em_nd (k : Int) (l r : Tr) : em (nd k l r) = false := rfl
theorem em_nn (k : Int) (l r : Tr) : ¬ em (nd k l r) = true := by rw [em_nd]; decide
theorem em_eq {t : Tr} (w : tr_wf t) (h : em t = true) : t = lf := by
  rcases tr_cases w with rfl | ⟨x, l, r, rfl, -, -⟩
  · rfl
  · exact absurd h (em_nn x l r)
theorem em_ne {t : Tr} (w : tr_wf t) (h : ¬ em t = true) : t ≠ lf := fun e => h (by rw [e]; rfl)
theorem at_none : ∀ t : Tr, tr_wf t → ∀ k : Int, k ∉ ks t → at_ k t = lf := tr_ind (fun _ _ => rfl) (fun x l r _ _ h1 h2 k hk => by
  rw [ks_nd] at hk
  have hx : k ≠ x := fun h => hk (by simp [h])
  rw [at_nd, if_neg hx]
  by_cases hl : k < x
  · rw [if_pos hl]
    exact h1 k (fun h => hk (by simp [h]))
  · rw [if_neg hl]
    exact h2 k (fun h => hk (by simp [h])))
theorem at_some : ∀ t : Tr, tr_wf t → ∀ lo hi k : Int, bst lo hi t → k ∈ ks t → ∃ l r, at_ k t = nd k l r ∧ tr_wf l ∧ tr_wf r := tr_ind (fun _ _ _ _ h => by rw [ks_lf] at h; cases h) (fun x l r w1 w2 h1 h2 lo hi k hb hk => by
  obtain ⟨a1, a2, a3, a4⟩ := bst_nd.mp hb
  rw [ks_nd] at hk
  rw [at_nd]
  by_cases hx : k = x
  · rw [if_pos hx, hx]
    exact ⟨l, r, rfl, w1, w2⟩
  · rw [if_neg hx]
    rcases List.mem_append.mp hk with h | h
    · have := bst_mem l w1 lo x a3 k h
      rw [if_pos (by omega)]
      exact h1 lo x k a3 h
    · rcases List.mem_cons.mp h with h | h
      · exact absurd h hx
      · have := bst_mem r w2 x hi a4 k h
        rw [if_neg (by omega)]
        exact h2 x hi k a4 h)
theorem at_pos {t : Tr} (w : tr_wf t) {lo hi k : Int} (hb : bst lo hi t) : 0 < sz (at_ k t) ↔ k ∈ ks t := by
  by_cases h : k ∈ ks t
  · obtain ⟨l, r, e, w1, w2⟩ := at_some t w lo hi k hb h
    rw [e]
    exact ⟨fun _ => h, fun _ => sz_pos w1 w2⟩
  · rw [at_none t w k h, sz_lf]
    exact ⟨fun q => by omega, fun q => absurd q h⟩
theorem wy_sub : ∀ t : Tr, tr_wf t → ∀ k x : Int, x ∈ wy k t → x ∈ ks t := tr_ind (fun _ _ h => by rw [wy_lf] at h; cases h) (fun y l r _ _ h1 h2 k x hx => by
  rw [wy_nd] at hx
  rw [ks_nd]
  rcases List.mem_cons.mp hx with h | h
  · simp [h]
  · by_cases e : k = y
    · rw [if_pos e] at h; cases h
    · rw [if_neg e] at h
      by_cases q : k < y
      · rw [if_pos q] at h
        simp [h1 k x h]
      · rw [if_neg q] at h
        simp [h2 k x h])
theorem wy_len : ∀ t : Tr, tr_wf t → ∀ k : Int, ((wy k t).length : Int) ≤ sz t := tr_ind (fun _ => by rw [wy_lf, sz_lf]; simp) (fun y l r w1 w2 h1 h2 k => by
  have := sz_nonneg l w1
  have := sz_nonneg r w2
  have a := h1 k
  have b := h2 k
  rw [wy_nd, sz_nd, List.length_cons]
  by_cases e : k = y
  · rw [if_pos e]; simp; omega
  · rw [if_neg e]
    by_cases q : k < y
    · rw [if_pos q]; omega
    · rw [if_neg q]; omega)
theorem wy_nodup : ∀ t : Tr, tr_wf t → ∀ lo hi k : Int, bst lo hi t → (wy k t).Nodup := tr_ind (fun _ _ _ _ => by rw [wy_lf]; exact List.nodup_nil) (fun y l r w1 w2 h1 h2 lo hi k hb => by
  obtain ⟨a1, a2, a3, a4⟩ := bst_nd.mp hb
  rw [wy_nd]
  refine List.nodup_cons.mpr ⟨fun h => ?_, ?_⟩
  · by_cases e : k = y
    · rw [if_pos e] at h; cases h
    · rw [if_neg e] at h
      by_cases q : k < y
      · rw [if_pos q] at h
        have := bst_mem l w1 lo y a3 y (wy_sub l w1 k y h)
        omega
      · rw [if_neg q] at h
        have := bst_mem r w2 y hi a4 y (wy_sub r w2 k y h)
        omega
  · by_cases e : k = y
    · rw [if_pos e]; exact List.nodup_nil
    · rw [if_neg e]
      by_cases q : k < y
      · rw [if_pos q]; exact h1 lo y k a3
      · rw [if_neg q]; exact h2 y hi k a4)
def ins (k : Int) : Tr → Tr
  | .nest x (.append l r) => if k < x then nd x (ins k l) r else nd x l (ins k r)
  | _ => nd k lf lf
theorem ins_lf (k : Int) : ins k lf = nd k lf lf := rfl
theorem ins_nd (k x : Int) (l r : Tr) : ins k (nd x l r) = if k < x then nd x (ins k l) r else nd x l (ins k r) := rfl
theorem ins_wf (k : Int) : ∀ t : Tr, tr_wf t → tr_wf (ins k t) := tr_ind (by rw [ins_lf]; exact ⟨trivial, trivial⟩) (fun x l r w1 w2 h1 h2 => by
  rw [ins_nd]
  by_cases q : k < x
  · rw [if_pos q]; exact ⟨h1, w2⟩
  · rw [if_neg q]; exact ⟨w1, h2⟩)
theorem ins_ne (k : Int) {t : Tr} (w : tr_wf t) : ins k t ≠ lf := by
  rcases tr_cases w with rfl | ⟨x, l, r, rfl, -, -⟩
  · rw [ins_lf]; intro h; cases h
  · rw [ins_nd]
    by_cases q : k < x
    · rw [if_pos q]; intro h; cases h
    · rw [if_neg q]; intro h; cases h
theorem ins_sz (k : Int) : ∀ t : Tr, tr_wf t → sz (ins k t) = sz t + 1 := tr_ind (by rw [ins_lf, sz_nd, sz_lf]; rfl) (fun x l r w1 w2 h1 h2 => by
  rw [ins_nd, sz_nd]
  by_cases q : k < x
  · rw [if_pos q, sz_nd, h1]; omega
  · rw [if_neg q, sz_nd, h2]; omega)
theorem ins_ks (k j : Int) : ∀ t : Tr, tr_wf t → (j ∈ ks (ins k t) ↔ j = k ∨ j ∈ ks t) := tr_ind (by rw [ins_lf, ks_nd, ks_lf]; simp) (fun x l r w1 w2 h1 h2 => by
  rw [ins_nd, ks_nd]
  by_cases q : k < x
  · rw [if_pos q, ks_nd]
    simp only [List.mem_append, List.mem_cons, h1]
    constructor
    · rintro ((h | h) | h | h) <;> simp [h]
    · rintro (h | h | h | h) <;> simp [h]
  · rw [if_neg q, ks_nd]
    simp only [List.mem_append, List.mem_cons, h2]
    constructor
    · rintro (h | h | h | h) <;> simp [h]
    · rintro (h | h | h | h) <;> simp [h])
theorem ins_bst (k : Int) : ∀ t : Tr, tr_wf t → ∀ lo hi : Int, bst lo hi t → lo < k → k < hi → k ∉ ks t → bst lo hi (ins k t) := tr_ind (fun lo hi _ a b _ => by rw [ins_lf]; exact bst_nd.mpr ⟨a, b, trivial, trivial⟩) (fun x l r w1 w2 h1 h2 lo hi hb a b hn => by
  obtain ⟨a1, a2, a3, a4⟩ := bst_nd.mp hb
  rw [ks_nd] at hn
  have hx : k ≠ x := fun h => hn (by simp [h])
  rw [ins_nd]
  by_cases q : k < x
  · rw [if_pos q]
    exact bst_nd.mpr ⟨a1, a2, h1 lo x a3 a q (fun h => hn (by simp [h])), a4⟩
  · rw [if_neg q]
    exact bst_nd.mpr ⟨a1, a2, a3, h2 x hi a4 (by omega) b (fun h => hn (by simp [h]))⟩)
theorem ins_rt (k : Int) {t : Tr} (w : tr_wf t) : rt (ins k t) = if em t = true then k else rt t := by
  rcases tr_cases w with rfl | ⟨x, l, r, rfl, -, -⟩
  · rw [if_pos em_lf, ins_lf, rt_nd]
  · rw [if_neg (em_nn _ _ _), ins_nd, rt_nd]
    by_cases q : k < x
    · rw [if_pos q, rt_nd]
    · rw [if_neg q, rt_nd]
theorem ins_wy (k : Int) : ∀ t : Tr, tr_wf t → k ∉ ks t → wy k (ins k t) = wy k t ++ [k] := tr_ind (fun _ => by rw [ins_lf, wy_nd, wy_lf, if_pos rfl]; rfl) (fun x l r w1 w2 h1 h2 hn => by
  rw [ks_nd] at hn
  have hx : k ≠ x := fun h => hn (by simp [h])
  rw [ins_nd, wy_nd, if_neg hx]
  by_cases q : k < x
  · rw [if_pos q, if_pos q, wy_nd, if_neg hx, if_pos q, h1 (fun h => hn (by simp [h]))]
    rfl
  · rw [if_neg q, if_neg q, wy_nd, if_neg hx, if_neg q, h2 (fun h => hn (by simp [h]))]
    rfl)
/-- how great the parts are then -/
theorem ins_at (k j : Int) : ∀ t : Tr, tr_wf t → ∀ lo hi : Int, bst lo hi t → k ∉ ks t → sz (at_ j (ins k t)) = if j = k then 1 else sz (at_ j t) + (if j ∈ wy k t then 1 else 0) := tr_ind (fun lo hi _ _ => by
  rw [ins_lf, at_nd, at_lf, wy_lf, sz_lf]
  by_cases e : j = k
  · rw [if_pos e, if_pos e, sz_nd, sz_lf]; rfl
  · rw [if_neg e, if_neg e, ite_self, sz_lf]
    simp) (fun x l r w1 w2 h1 h2 lo hi hb hn => by
  obtain ⟨a1, a2, a3, a4⟩ := bst_nd.mp hb
  rw [ks_nd] at hn
  have hx : k ≠ x := fun h => hn (by simp [h])
  have hl : k ∉ ks l := fun h => hn (by simp [h])
  have hr : k ∉ ks r := fun h => hn (by simp [h])
  rw [ins_nd, wy_nd, if_neg hx]
  by_cases q : k < x
  · rw [if_pos q, if_pos q, at_nd, at_nd]
    by_cases e : j = x
    · rw [if_pos e, if_pos e, if_neg (by omega), if_pos (by simp [e]), sz_nd, sz_nd, ins_sz k l w1]
      omega
    · rw [if_neg e, if_neg e]
      by_cases g : j < x
      · rw [if_pos g, if_pos g, h1 lo x a3 hl]
        simp [e]
      · have z : j ∉ wy k l := fun z => by
          have := bst_mem l w1 lo x a3 j (wy_sub l w1 k j z)
          omega
        rw [if_neg g, if_neg g, if_neg (by omega), if_neg (by simp [e, z])]
        omega
  · rw [if_neg q, if_neg q, at_nd, at_nd]
    by_cases e : j = x
    · rw [if_pos e, if_pos e, if_neg (by omega), if_pos (by simp [e]), sz_nd, sz_nd, ins_sz k r w2]
      omega
    · rw [if_neg e, if_neg e]
      by_cases g : j < x
      · have z : j ∉ wy k r := fun z => by
          have := bst_mem r w2 x hi a4 j (wy_sub r w2 k j z)
          omega
        rw [if_pos g, if_pos g, if_neg (by omega), if_neg (by simp [e, z])]
        omega
      · rw [if_neg g, if_neg g, h2 x hi a4 hr]
        simp [e])
/-- the last one on the way -/
def lw (k : Int) (t : Tr) : Int := (wy k t).getLastD (-1)
theorem lw_lf (k : Int) : lw k lf = -1 := rfl
theorem lw_mem {k : Int} {t : Tr} (w : tr_wf t) (hn : t ≠ lf) : lw k t ∈ wy k t := by
  rcases tr_cases w with rfl | ⟨x, l, r, rfl, -, -⟩
  · exact absurd rfl hn
  · unfold lw
    rw [wy_nd]
    rw [List.getLastD_cons]
    generalize (if k = x then [] else if k < x then wy k l else wy k r) = xs
    cases xs with
    | nil => simp
    | cons a b =>
      rw [List.getLastD_cons]
      have : ∀ (b : List Int) (a : Int), b.getLastD a ∈ a :: b := by
        intro b
        induction b with
        | nil => intro a; simp
        | cons c d ih => intro a; rw [List.getLastD_cons]; exact List.mem_cons_of_mem _ (ih c)
      exact List.mem_cons_of_mem _ (this b a)
theorem lw_nd {k x : Int} {l r : Tr} (wl : tr_wf l) (wr : tr_wf r) (hx : k ≠ x) : lw k (nd x l r) = if k < x then (if em l = true then x else lw k l) else (if em r = true then x else lw k r) := by
  unfold lw
  rw [wy_nd, if_neg hx, List.getLastD_cons]
  by_cases q : k < x
  · rw [if_pos q, if_pos q]
    rcases tr_cases wl with rfl | ⟨y, a, b, rfl, -, -⟩
    · rw [if_pos em_lf, wy_lf]; rfl
    · rw [if_neg (em_nn _ _ _), wy_nd, List.getLastD_cons, List.getLastD_cons]
  · rw [if_neg q, if_neg q]
    rcases tr_cases wr with rfl | ⟨y, a, b, rfl, -, -⟩
    · rw [if_pos em_lf, wy_lf]; rfl
    · rw [if_neg (em_nn _ _ _), wy_nd, List.getLastD_cons, List.getLastD_cons]
theorem lw_ks {k : Int} {t : Tr} (w : tr_wf t) (hn : t ≠ lf) : lw k t ∈ ks t := wy_sub t w k _ (lw_mem w hn)
/-- the links then: the new one has none, the last one on the way has it -/
theorem ins_rp (k : Int) {L R L' R' : Int → Int} : ∀ t : Tr, tr_wf t → ∀ lo hi : Int, bst lo hi t → k ∉ ks t → rp L R t → L' k = -1 → R' k = -1 →
    (∀ j ∈ ks t, L' j = (if j = lw k t ∧ k < j then k else L j) ∧ R' j = (if j = lw k t ∧ j < k then k else R j)) → rp L' R' (ins k t) := tr_ind (fun _ _ _ _ _ e1 e2 _ => by
  rw [ins_lf]
  exact rp_nd.mpr ⟨e1, e2, trivial, trivial⟩) (fun x l r w1 w2 h1 h2 lo hi hb hn hp e1 e2 hf => by
  obtain ⟨a1, a2, a3, a4⟩ := bst_nd.mp hb
  obtain ⟨b1, b2, b3, b4⟩ := rp_nd.mp hp
  have hn' := hn
  rw [ks_nd] at hn
  have hx : k ≠ x := fun h => hn (by simp [h])
  have hl : k ∉ ks l := fun h => hn (by simp [h])
  have hr : k ∉ ks r := fun h => hn (by simp [h])
  have fx := hf x (by rw [ks_nd]; simp)
  have fl : ∀ j ∈ ks l, j ∈ ks (nd x l r) := fun j h => by rw [ks_nd]; simp [h]
  have fr : ∀ j ∈ ks r, j ∈ ks (nd x l r) := fun j h => by rw [ks_nd]; simp [h]
  rw [lw_nd w1 w2 hx] at hf fx
  rw [ins_nd]
  by_cases q : k < x
  · rw [if_pos q]
    simp only [if_pos q] at hf fx
    have hlx : ∀ j ∈ ks r, j ≠ (if em l = true then x else lw k l) := fun j hj => by
      have := bst_mem r w2 x hi a4 j hj
      by_cases e : em l = true
      · rw [if_pos e]; omega
      · rw [if_neg e]
        have := bst_mem l w1 lo x a3 _ (lw_ks (k := k) w1 (em_ne w1 e))
        omega
    refine rp_nd.mpr ⟨?_, ?_, ?_, ?_⟩
    · rw [fx.1, ins_rt k w1]
      by_cases e : em l = true
      · rw [if_pos e, if_pos e, if_pos ⟨rfl, q⟩]
      · have := bst_mem l w1 lo x a3 _ (lw_ks (k := k) w1 (em_ne w1 e))
        rw [if_neg e, if_neg e, if_neg (by omega), b1]
    · rw [fx.2, if_neg (by omega), b2]
    · by_cases e : em l = true
      · rw [em_eq (by assumption) e, ins_lf]
        exact rp_nd.mpr ⟨e1, e2, trivial, trivial⟩
      · refine h1 lo x a3 hl b3 e1 e2 (fun j hj => ?_)
        have := hf j (fl j hj)
        rw [if_neg e] at this
        exact this
    · refine rp_frame r w2 (fun j hj => ?_) b4
      have := hf j (fr j hj)
      have z := hlx j hj
      rw [if_neg (fun h => z h.1), if_neg (fun h => z h.1)] at this
      exact this
  · rw [if_neg q]
    simp only [if_neg q] at hf fx
    have hlx : ∀ j ∈ ks l, j ≠ (if em r = true then x else lw k r) := fun j hj => by
      have := bst_mem l w1 lo x a3 j hj
      by_cases e : em r = true
      · rw [if_pos e]; omega
      · rw [if_neg e]
        have := bst_mem r w2 x hi a4 _ (lw_ks (k := k) w2 (em_ne w2 e))
        omega
    refine rp_nd.mpr ⟨?_, ?_, ?_, ?_⟩
    · rw [fx.1, if_neg (by omega), b1]
    · rw [fx.2, ins_rt k w2]
      by_cases e : em r = true
      · rw [if_pos e, if_pos e, if_pos ⟨rfl, by omega⟩]
      · have := bst_mem r w2 x hi a4 _ (lw_ks (k := k) w2 (em_ne w2 e))
        rw [if_neg e, if_neg e, if_neg (by omega), b2]
    · refine rp_frame l w1 (fun j hj => ?_) b3
      have := hf j (fl j hj)
      have z := hlx j hj
      rw [if_neg (fun h => z h.1), if_neg (fun h => z h.1)] at this
      exact this
    · by_cases e : em r = true
      · rw [em_eq (by assumption) e, ins_lf]
        exact rp_nd.mpr ⟨e1, e2, trivial, trivial⟩
      · refine h2 x hi a4 hr b4 e1 e2 (fun j hj => ?_)
        have := hf j (fr j hj)
        rw [if_neg e] at this
        exact this)
/-- the ones above then -/
theorem ins_ra (k : Int) {U U' : Int → Int} : ∀ t : Tr, tr_wf t → ∀ p : Int, k ∉ ks t → ra U p t → U' k = (if em t = true then p else lw k t) → (∀ j ∈ ks t, U' j = U j) → ra U' p (ins k t) := tr_ind (fun p _ _ e1 _ => by
  rw [ins_lf]
  rw [if_pos em_lf] at e1
  exact ra_nd.mpr ⟨e1, trivial, trivial⟩) (fun x l r w1 w2 h1 h2 p hn ha e1 hf => by
  obtain ⟨b1, b2, b3⟩ := ra_nd.mp ha
  rw [ks_nd] at hn
  have hx : k ≠ x := fun h => hn (by simp [h])
  have hl : k ∉ ks l := fun h => hn (by simp [h])
  have hr : k ∉ ks r := fun h => hn (by simp [h])
  have fx := hf x (by rw [ks_nd]; simp)
  have fl : ∀ j ∈ ks l, U' j = U j := fun j h => hf j (by rw [ks_nd]; simp [h])
  have fr : ∀ j ∈ ks r, U' j = U j := fun j h => hf j (by rw [ks_nd]; simp [h])
  rw [if_neg (em_nn _ _ _), lw_nd w1 w2 hx] at e1
  rw [ins_nd]
  by_cases q : k < x
  · rw [if_pos q] at e1
    rw [if_pos q]
    exact ra_nd.mpr ⟨by rw [fx, b1], h1 x hl b2 e1 fl, ra_frame r w2 fr b3⟩
  · rw [if_neg q] at e1
    rw [if_neg q]
    exact ra_nd.mpr ⟨by rw [fx, b1], ra_frame l w1 fl b2, h2 x hr b3 e1 fr⟩)
