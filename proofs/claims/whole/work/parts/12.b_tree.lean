/-! trees: out of a type that is there (nothing new may be declared): the empty one, one with a key and two sides -/
abbrev Tr : Type := Std.Format
def lf : Tr := Std.Format.nil
def nd (k : Int) (l r : Tr) : Tr := Std.Format.nest k (Std.Format.append l r)
def tr_wf : Tr → Prop
  | .nil => True
  | .nest _ (.append l r) => tr_wf l ∧ tr_wf r
  | _ => False
theorem tr_wf_lf : tr_wf lf := trivial
theorem tr_wf_nd {k : Int} {l r : Tr} : tr_wf (nd k l r) ↔ tr_wf l ∧ tr_wf r := Iff.rfl
theorem tr_ind {P : Tr → Prop} (h0 : P lf) (h1 : ∀ (k : Int) (l r : Tr), tr_wf l → tr_wf r → P l → P r → P (nd k l r)) : ∀ t : Tr, tr_wf t → P t
  | .nil, _ => h0
  | .nest k (.append l r), h => h1 k l r h.1 h.2 (tr_ind h0 h1 l h.1) (tr_ind h0 h1 r h.2)
  | .line, h => h.elim
  | .align _, h => h.elim
  | .text _, h => h.elim
  | .append _ _, h => h.elim
  | .group _ _, h => h.elim
  | .tag _ _, h => h.elim
  | .nest _ .nil, h => h.elim
  | .nest _ .line, h => h.elim
  | .nest _ (.align _), h => h.elim
  | .nest _ (.text _), h => h.elim
  | .nest _ (.nest _ _), h => h.elim
  | .nest _ (.group _ _), h => h.elim
  | .nest _ (.tag _ _), h => h.elim
theorem tr_cases {t : Tr} (h : tr_wf t) : t = lf ∨ ∃ k l r, t = nd k l r ∧ tr_wf l ∧ tr_wf r :=
  tr_ind (P := fun t => t = lf ∨ ∃ k l r, t = nd k l r ∧ tr_wf l ∧ tr_wf r) (Or.inl rfl) (fun k l r h1 h2 _ _ => Or.inr ⟨k, l, r, rfl, h1, h2⟩) t h
/-- the key on top, -1: none -/
def rt : Tr → Int
  | .nest k (.append _ _) => k
  | _ => -1
theorem rt_lf : rt lf = -1 := rfl
theorem rt_nd (k : Int) (l r : Tr) : rt (nd k l r) = k := rfl
/-- the keys in order -/
def ks : Tr → List Int
  | .nest k (.append l r) => ks l ++ k :: ks r
  | _ => []
theorem ks_lf : ks lf = [] := rfl
theorem ks_nd (k : Int) (l r : Tr) : ks (nd k l r) = ks l ++ k :: ks r := rfl
/-- how many -/
def sz : Tr → Int
  | .nest _ (.append l r) => sz l + sz r + 1
  | _ => 0
theorem sz_lf : sz lf = 0 := rfl
theorem sz_nd (k : Int) (l r : Tr) : sz (nd k l r) = sz l + sz r + 1 := rfl
/-- in order, between two numbers -/
def bst : Int → Int → Tr → Prop
  | lo, hi, .nest k (.append l r) => lo < k ∧ k < hi ∧ bst lo k l ∧ bst k hi r
  | _, _, _ => True
theorem bst_lf (lo hi : Int) : bst lo hi lf := trivial
theorem bst_nd {lo hi k : Int} {l r : Tr} : bst lo hi (nd k l r) ↔ lo < k ∧ k < hi ∧ bst lo k l ∧ bst k hi r := Iff.rfl
/-- the keys on the way down to a key -/
def wy (k : Int) : Tr → List Int
  | .nest x (.append l r) => x :: (if k = x then [] else if k < x then wy k l else wy k r)
  | _ => []
theorem wy_lf (k : Int) : wy k lf = [] := rfl
theorem wy_nd (k x : Int) (l r : Tr) : wy k (nd x l r) = x :: (if k = x then [] else if k < x then wy k l else wy k r) := rfl
/-- the part whose top is a key -/
def at_ (k : Int) : Tr → Tr
  | .nest x (.append l r) => if k = x then nd x l r else if k < x then at_ k l else at_ k r
  | _ => lf
theorem at_lf (k : Int) : at_ k lf = lf := rfl
theorem at_nd (k x : Int) (l r : Tr) : at_ k (nd x l r) = if k = x then nd x l r else if k < x then at_ k l else at_ k r := rfl
/-- the links by rows -/
def rp (L R : Int → Int) : Tr → Prop
  | .nest x (.append l r) => L x = rt l ∧ R x = rt r ∧ rp L R l ∧ rp L R r
  | _ => True
theorem rp_lf (L R : Int → Int) : rp L R lf := trivial
theorem rp_nd {L R : Int → Int} {x : Int} {l r : Tr} : rp L R (nd x l r) ↔ L x = rt l ∧ R x = rt r ∧ rp L R l ∧ rp L R r := Iff.rfl
/-- the one above, by a row -/
def ra (U : Int → Int) : Int → Tr → Prop
  | p, .nest x (.append l r) => U x = p ∧ ra U x l ∧ ra U x r
  | _, _ => True
theorem ra_lf (U : Int → Int) (p : Int) : ra U p lf := trivial
theorem ra_nd {U : Int → Int} {p x : Int} {l r : Tr} : ra U p (nd x l r) ↔ U x = p ∧ ra U x l ∧ ra U x r := Iff.rfl
theorem sz_nonneg : ∀ t : Tr, tr_wf t → 0 ≤ sz t := tr_ind (by rw [sz_lf]; omega) (fun k l r _ _ h1 h2 => by rw [sz_nd]; omega)
theorem sz_pos {k : Int} {l r : Tr} (h1 : tr_wf l) (h2 : tr_wf r) : 0 < sz (nd k l r) := by
  have := sz_nonneg l h1
  have := sz_nonneg r h2
  rw [sz_nd]
  omega
theorem sz_ks : ∀ t : Tr, tr_wf t → sz t = ((ks t).length : Int) := tr_ind rfl (fun k l r _ _ h1 h2 => by
  rw [sz_nd, ks_nd, h1, h2]
  simp
  omega)
theorem bst_mem : ∀ t : Tr, tr_wf t → ∀ lo hi : Int, bst lo hi t → ∀ k ∈ ks t, lo < k ∧ k < hi := tr_ind (fun lo hi _ k h => by rw [ks_lf] at h; cases h) (fun x l r _ _ h1 h2 lo hi hb k hk => by
  obtain ⟨a1, a2, a3, a4⟩ := bst_nd.mp hb
  rw [ks_nd] at hk
  rcases List.mem_append.mp hk with h | h
  · have := h1 lo x a3 k h
    omega
  · rcases List.mem_cons.mp h with h | h
    · omega
    · have := h2 x hi a4 k h
      omega)
theorem bst_wide : ∀ t : Tr, tr_wf t → ∀ lo hi lo' hi' : Int, lo' ≤ lo → hi ≤ hi' → bst lo hi t → bst lo' hi' t := tr_ind (fun _ _ _ _ _ _ _ => trivial) (fun x l r _ _ h1 h2 lo hi lo' hi' q1 q2 hb => by
  obtain ⟨a1, a2, a3, a4⟩ := bst_nd.mp hb
  exact bst_nd.mpr ⟨by omega, by omega, h1 lo x lo' x q1 (by omega) a3, h2 x hi x hi' (by omega) q2 a4⟩)
theorem rp_frame : ∀ t : Tr, tr_wf t → ∀ {L R L' R' : Int → Int}, (∀ k ∈ ks t, L' k = L k ∧ R' k = R k) → rp L R t → rp L' R' t := tr_ind (fun _ _ => trivial) (fun x l r _ _ h1 h2 L R L' R' hf hp => by
  obtain ⟨a1, a2, a3, a4⟩ := rp_nd.mp hp
  have hx := hf x (by rw [ks_nd]; simp)
  exact rp_nd.mpr ⟨by rw [hx.1, a1], by rw [hx.2, a2], h1 (fun k hk => hf k (by rw [ks_nd]; simp [hk])) a3, h2 (fun k hk => hf k (by rw [ks_nd]; simp [hk])) a4⟩)
theorem ra_frame : ∀ t : Tr, tr_wf t → ∀ {U U' : Int → Int} {p : Int}, (∀ k ∈ ks t, U' k = U k) → ra U p t → ra U' p t := tr_ind (fun _ _ => trivial) (fun x l r _ _ h1 h2 U U' p hf hp => by
  obtain ⟨a1, a2, a3⟩ := ra_nd.mp hp
  have hx := hf x (by rw [ks_nd]; simp)
  exact ra_nd.mpr ⟨by rw [hx, a1], h1 (fun k hk => hf k (by rw [ks_nd]; simp [hk])) a2, h2 (fun k hk => hf k (by rw [ks_nd]; simp [hk])) a3⟩)
theorem rt_mem {t : Tr} (h : tr_wf t) (hn : t ≠ lf) : rt t ∈ ks t := by
  rcases tr_cases h with rfl | ⟨k, l, r, rfl, -, -⟩
  · exact absurd rfl hn
  · rw [rt_nd, ks_nd]; simp
theorem ks_nil {t : Tr} (h : tr_wf t) : ks t = [] ↔ t = lf := by
  rcases tr_cases h with rfl | ⟨k, l, r, rfl, -, -⟩
  · simp [ks_lf]
  · rw [ks_nd]
    constructor
    · intro h; simp at h
    · intro h; cases h
