/-! flat trees; keys in a row -/
def flt (row : Int → Int) : Nat → Int → Int → Tr
  | 0, _, _ => lf
  | n + 1, lo, hi => if hi < lo then lf else nd (row ((lo + hi) / 2)) (flt row n lo ((lo + hi) / 2 - 1)) (flt row n ((lo + hi) / 2 + 1) hi)
theorem flt_0 (row : Int → Int) (lo hi : Int) : flt row 0 lo hi = lf := rfl
theorem flt_s (row : Int → Int) (n : Nat) (lo hi : Int) : flt row (n + 1) lo hi = if hi < lo then lf else nd (row ((lo + hi) / 2)) (flt row n lo ((lo + hi) / 2 - 1)) (flt row n ((lo + hi) / 2 + 1) hi) := rfl
theorem flt_no (row : Int → Int) (n : Nat) {lo hi : Int} (h : hi < lo) : flt row n lo hi = lf := by
  cases n with
  | zero => rfl
  | succ n => rw [flt_s, if_pos h]
theorem flt_wf (row : Int → Int) : ∀ (n : Nat) (lo hi : Int), tr_wf (flt row n lo hi)
  | 0, _, _ => trivial
  | n + 1, lo, hi => by
    rw [flt_s]
    by_cases h : hi < lo
    · rw [if_pos h]; trivial
    · rw [if_neg h]; exact ⟨flt_wf row n _ _, flt_wf row n _ _⟩
theorem p2 (n : Nat) : (2 : Int) ^ (n + 1) = 2 * 2 ^ n := by rw [Int.pow_succ]; omega
theorem flt_rt (row : Int → Int) (n : Nat) {lo hi : Int} (h : hi - lo + 1 < 2 ^ n) : rt (flt row n lo hi) = if hi < lo then -1 else row ((lo + hi) / 2) := by
  by_cases q : hi < lo
  · rw [flt_no row n q, if_pos q, rt_lf]
  · cases n with
    | zero => exfalso; have : (2 : Int) ^ 0 = 1 := rfl; omega
    | succ n => rw [flt_s, if_neg q, if_neg q, rt_nd]
theorem flt_sz (row : Int → Int) : ∀ (n : Nat) (lo hi : Int), hi - lo + 1 < 2 ^ n → lo ≤ hi + 1 → sz (flt row n lo hi) = hi - lo + 1
  | 0, lo, hi, h, h2 => by
    have : (2 : Int) ^ 0 = 1 := rfl
    rw [flt_0, sz_lf]; omega
  | n + 1, lo, hi, h, h2 => by
    rw [p2] at h
    rw [flt_s]
    by_cases q : hi < lo
    · rw [if_pos q, sz_lf]; omega
    · rw [if_neg q, sz_nd, flt_sz row n _ _ (by omega) (by omega), flt_sz row n _ _ (by omega) (by omega)]; omega
theorem flt_ks (row : Int → Int) : ∀ (n : Nat) (lo hi : Int), hi - lo + 1 < 2 ^ n → ∀ j, j ∈ ks (flt row n lo hi) ↔ ∃ i, lo ≤ i ∧ i ≤ hi ∧ j = row i
  | 0, lo, hi, h, j => by
    have : (2 : Int) ^ 0 = 1 := rfl
    rw [flt_0, ks_lf]
    constructor
    · intro h; cases h
    · rintro ⟨i, h1, h2, -⟩; omega
  | n + 1, lo, hi, h, j => by
    rw [p2] at h
    rw [flt_s]
    by_cases q : hi < lo
    · rw [if_pos q, ks_lf]
      constructor
      · intro h; cases h
      · rintro ⟨i, h1, h2, -⟩; omega
    · rw [if_neg q, ks_nd, List.mem_append, List.mem_cons, flt_ks row n _ _ (by omega), flt_ks row n _ _ (by omega)]
      constructor
      · rintro (⟨i, h1, h2, e⟩ | e | ⟨i, h1, h2, e⟩)
        · exact ⟨i, by omega, by omega, e⟩
        · exact ⟨_, by omega, by omega, e⟩
        · exact ⟨i, by omega, by omega, e⟩
      · rintro ⟨i, h1, h2, e⟩
        rcases Int.lt_trichotomy i ((lo + hi) / 2) with g | g | g
        · exact Or.inl ⟨i, by omega, by omega, e⟩
        · exact Or.inr (Or.inl (by rw [e, g]))
        · exact Or.inr (Or.inr ⟨i, by omega, by omega, e⟩)
theorem flt_bst (row : Int → Int) : ∀ (n : Nat) (lo hi a b : Int), (∀ i, lo ≤ i → i ≤ hi → a < row i ∧ row i < b) → (∀ i j, lo ≤ i → i < j → j ≤ hi → row i < row j) → bst a b (flt row n lo hi)
  | 0, _, _, _, _, _, _ => trivial
  | n + 1, lo, hi, a, b, h1, h2 => by
    rw [flt_s]
    by_cases q : hi < lo
    · rw [if_pos q]; trivial
    · rw [if_neg q]
      have hm := h1 ((lo + hi) / 2) (by omega) (by omega)
      exact bst_nd.mpr ⟨hm.1, hm.2, flt_bst row n _ _ a _ (fun i g1 g2 => ⟨(h1 i (by omega) (by omega)).1, h2 i _ (by omega) (by omega) (by omega)⟩) (fun i j g1 g2 g3 => h2 i j (by omega) g2 (by omega)), flt_bst row n _ _ _ b (fun i g1 g2 => ⟨h2 _ i (by omega) (by omega) (by omega), (h1 i (by omega) (by omega)).2⟩) (fun i j g1 g2 g3 => h2 i j (by omega) g2 (by omega))⟩
theorem flt_ext {r1 r2 : Int → Int} : ∀ (n : Nat) (lo hi : Int), (∀ i, lo ≤ i → i ≤ hi → r1 i = r2 i) → flt r1 n lo hi = flt r2 n lo hi
  | 0, _, _, _ => rfl
  | n + 1, lo, hi, h => by
    rw [flt_s, flt_s]
    by_cases q : hi < lo
    · rw [if_pos q, if_pos q]
    · rw [if_neg q, if_neg q, h _ (by omega) (by omega), flt_ext n lo _ (fun i g1 g2 => h i g1 (by omega)), flt_ext n _ hi (fun i g1 g2 => h i (by omega) g2)]
/-- those of n numbers from c on that are so -/
def fil (P : Int → Bool) : Int → Nat → List Int
  | _, 0 => []
  | c, n + 1 => if P c = true then c :: fil P (c + 1) n else fil P (c + 1) n
theorem fil_0 (P : Int → Bool) (c : Int) : fil P c 0 = [] := rfl
theorem fil_s (P : Int → Bool) (c : Int) (n : Nat) : fil P c (n + 1) = if P c = true then c :: fil P (c + 1) n else fil P (c + 1) n := rfl
theorem fil_add (P : Int → Bool) : ∀ (m n : Nat) (c : Int), fil P c (m + n) = fil P c m ++ fil P (c + m) n
  | 0, n, c => by simp [fil_0]
  | m + 1, n, c => by
    rw [show m + 1 + n = m + n + 1 by omega, fil_s, fil_s, fil_add P m n (c + 1), show c + 1 + (m : Int) = c + ((m + 1 : Nat) : Int) by omega]
    by_cases h : P c = true
    · rw [if_pos h, if_pos h]; rfl
    · rw [if_neg h, if_neg h]
theorem fil_ext {P Q : Int → Bool} : ∀ (n : Nat) (c : Int), (∀ k, c ≤ k → k < c + n → P k = Q k) → fil P c n = fil Q c n
  | 0, _, _ => rfl
  | n + 1, c, h => by
    rw [fil_s, fil_s, h c (by omega) (by omega), fil_ext n (c + 1) (fun k h1 h2 => h k (by omega) (by omega))]
theorem fil_no {P : Int → Bool} : ∀ (n : Nat) (c : Int), (∀ k, c ≤ k → k < c + n → P k = false) → fil P c n = []
  | 0, _, _ => rfl
  | n + 1, c, h => by
    rw [fil_s, h c (by omega) (by omega), if_neg (by decide), fil_no n (c + 1) (fun k h1 h2 => h k (by omega) (by omega))]
/-- they are the keys of a tree -/
theorem fil_ks {P : Int → Bool} : ∀ t : Tr, tr_wf t → ∀ lo hi : Int, lo < hi → bst lo hi t → (∀ k, lo < k → k < hi → (P k = true ↔ k ∈ ks t)) → fil P (lo + 1) (hi - lo - 1).toNat = ks t := tr_ind (fun lo hi _ _ h => by
  rw [ks_lf]
  refine fil_no _ _ (fun k h1 h2 => ?_)
  cases e : P k with
  | false => rfl
  | true =>
    have := (h k (by omega) (by omega)).mp e
    rw [ks_lf] at this
    cases this) (fun x l r w1 w2 h1 h2 lo hi hlt hb h => by
  obtain ⟨a1, a2, a3, a4⟩ := bst_nd.mp hb
  rw [show (hi - lo - 1).toNat = (x - lo - 1).toNat + ((hi - x - 1).toNat + 1) by omega, fil_add, fil_s, show lo + 1 + ((x - lo - 1).toNat : Int) = x by omega, if_pos ((h x a1 a2).mpr (by rw [ks_nd]; simp)), ks_nd,
    h1 lo x a1 a3 (fun k g1 g2 => ?_), h2 x hi a2 a4 (fun k g1 g2 => ?_)]
  · rw [h k (by omega) g2, ks_nd]
    constructor
    · intro z
      rcases List.mem_append.mp z with z | z
      · have := bst_mem l w1 lo x a3 k z
        omega
      · rcases List.mem_cons.mp z with z | z
        · omega
        · exact z
    · intro z; simp [z]
  · rw [h k g1 (by omega), ks_nd]
    constructor
    · intro z
      rcases List.mem_append.mp z with z | z
      · exact z
      · rcases List.mem_cons.mp z with z | z
        · omega
        · have := bst_mem r w2 x hi a4 k z
          omega
    · intro z; simp [z])
/-- in order: of two places the lesser one has the lesser key -/
theorem ks_sorted : ∀ t : Tr, tr_wf t → ∀ lo hi : Int, bst lo hi t → (ks t).Pairwise (· < ·) := tr_ind (fun _ _ _ => by rw [ks_lf]; exact List.Pairwise.nil) (fun x l r w1 w2 h1 h2 lo hi hb => by
  obtain ⟨a1, a2, a3, a4⟩ := bst_nd.mp hb
  rw [ks_nd, List.pairwise_append]
  refine ⟨h1 lo x a3, List.pairwise_cons.mpr ⟨fun j hj => (bst_mem r w2 x hi a4 j hj).1, h2 x hi a4⟩, fun i hi' j hj => ?_⟩
  have q1 := bst_mem l w1 lo x a3 i hi'
  rcases List.mem_cons.mp hj with z | z
  · omega
  · have := bst_mem r w2 x hi a4 j z
    omega)
/-- the keys of a tree as a row -/
def kr (t : Tr) (i : Int) : Int := (ks t).getD i.toNat 0
theorem kr_in {t : Tr} (w : tr_wf t) {i : Int} (h1 : 0 ≤ i) (h2 : i < sz t) : kr t i ∈ ks t := by
  rw [sz_ks t w] at h2
  unfold kr
  rw [List.getD_eq_getElem?_getD, List.getElem?_eq_getElem (by omega)]
  exact List.getElem_mem _
theorem kr_lt {t : Tr} (w : tr_wf t) {lo hi : Int} (hb : bst lo hi t) {i j : Int} (h1 : 0 ≤ i) (h2 : i < j) (h3 : j < sz t) : kr t i < kr t j := by
  rw [sz_ks t w] at h3
  unfold kr
  rw [List.getD_eq_getElem?_getD, List.getElem?_eq_getElem (by omega), List.getD_eq_getElem?_getD, List.getElem?_eq_getElem (by omega)]
  exact List.pairwise_iff_getElem.mp (ks_sorted t w lo hi hb) _ _ _ _ (by omega)
theorem kr_ex {t : Tr} (w : tr_wf t) {j : Int} (h : j ∈ ks t) : ∃ i, 0 ≤ i ∧ i < sz t ∧ kr t i = j := by
  obtain ⟨n, hn, e⟩ := List.getElem_of_mem h
  refine ⟨n, by omega, by rw [sz_ks t w]; omega, ?_⟩
  unfold kr
  rw [List.getD_eq_getElem?_getD, Int.toNat_natCast, List.getElem?_eq_getElem hn, ← e]
  rfl
/-- the flat tree of the keys of a tree -/
def fk (t : Tr) : Tr := flt (kr t) 7 0 (sz t - 1)
theorem fk_wf (t : Tr) : tr_wf (fk t) := flt_wf _ _ _ _
theorem p7 : (2 : Int) ^ 7 = 128 := by decide
theorem fk_sz {t : Tr} (w : tr_wf t) (h : sz t ≤ 40) : sz (fk t) = sz t := by
  have := sz_nonneg t w
  unfold fk
  rw [flt_sz _ _ _ _ (by rw [p7]; omega) (by omega)]
  omega
theorem fk_ks {t : Tr} (w : tr_wf t) (h : sz t ≤ 40) (j : Int) : j ∈ ks (fk t) ↔ j ∈ ks t := by
  unfold fk
  rw [flt_ks _ _ _ _ (by rw [p7]; omega)]
  constructor
  · rintro ⟨i, h1, h2, e⟩
    rw [e]
    exact kr_in w h1 (by omega)
  · intro z
    obtain ⟨i, h1, h2, e⟩ := kr_ex w z
    exact ⟨i, h1, by omega, e.symm⟩
theorem fk_bst {t : Tr} (w : tr_wf t) {a b : Int} (hb : bst a b t) : bst a b (fk t) := flt_bst _ _ _ _ _ _ (fun i h1 h2 => bst_mem t w a b hb _ (kr_in w h1 (by omega))) (fun i j h1 h2 h3 => kr_lt w hb h1 h2 (by omega))
/-- all between two numbers: the part of a key -/
def il (x : Int) : Int → Tr → Int
  | lo, .nest y (.append l r) => if x = y then lo else if x < y then il x lo l else il x y r
  | lo, _ => lo
def ih_ (x : Int) : Int → Tr → Int
  | hi, .nest y (.append l r) => if x = y then hi else if x < y then ih_ x y l else ih_ x hi r
  | hi, _ => hi
theorem il_nd (x lo y : Int) (l r : Tr) : il x lo (nd y l r) = if x = y then lo else if x < y then il x lo l else il x y r := rfl
theorem ih_nd (x hi y : Int) (l r : Tr) : ih_ x hi (nd y l r) = if x = y then hi else if x < y then ih_ x y l else ih_ x hi r := rfl
theorem at_iv (x : Int) : ∀ t : Tr, tr_wf t → ∀ lo hi : Int, bst lo hi t → x ∈ ks t → bst (il x lo t) (ih_ x hi t) (at_ x t) ∧ lo ≤ il x lo t ∧ ih_ x hi t ≤ hi ∧ il x lo t < x ∧ x < ih_ x hi t ∧ ∀ j, il x lo t < j → j < ih_ x hi t → (j ∈ ks t ↔ j ∈ ks (at_ x t)) := tr_ind (fun _ _ _ h => by rw [ks_lf] at h; cases h) (fun y l r w1 w2 h1 h2 lo hi hb hx => by
  obtain ⟨a1, a2, a3, a4⟩ := bst_nd.mp hb
  rw [il_nd, ih_nd, at_nd]
  by_cases e : x = y
  · rw [if_pos e, if_pos e, if_pos e]
    exact ⟨hb, by omega, by omega, by omega, by omega, fun _ _ _ => Iff.rfl⟩
  · rw [if_neg e, if_neg e, if_neg e]
    rcases side (t := lf) w1 w2 hb hx e with ⟨g, q⟩ | ⟨g, q⟩
    · rw [if_pos g, if_pos g, if_pos g]
      obtain ⟨c1, c2, c3, c4, c5, c6⟩ := h1 lo y a3 q
      refine ⟨c1, c2, by omega, c4, c5, fun j d1 d2 => ?_⟩
      rw [← c6 j d1 d2, ks_nd]
      constructor
      · intro z
        rcases List.mem_append.mp z with z | z
        · exact z
        · rcases List.mem_cons.mp z with z | z
          · omega
          · have := bst_mem r w2 y hi a4 j z
            omega
      · intro z; simp [z]
    · rw [if_neg g, if_neg g, if_neg g]
      obtain ⟨c1, c2, c3, c4, c5, c6⟩ := h2 y hi a4 q
      refine ⟨c1, by omega, c3, c4, c5, fun j d1 d2 => ?_⟩
      rw [← c6 j d1 d2, ks_nd]
      constructor
      · intro z
        rcases List.mem_append.mp z with z | z
        · have := bst_mem l w1 lo y a3 j z
          omega
        · rcases List.mem_cons.mp z with z | z
          · omega
          · exact z
      · intro z; simp [z])
theorem pa_out (x : Int) : ∀ t : Tr, tr_wf t → ∀ lo hi p : Int, bst lo hi t → x ∈ ks t → p ∉ ks t → pa x p t ∉ ks (at_ x t) := tr_ind (fun _ _ _ _ h => by rw [ks_lf] at h; cases h) (fun y l r w1 w2 h1 h2 lo hi p hb hx hp => by
  obtain ⟨a1, a2, a3, a4⟩ := bst_nd.mp hb
  rw [pa_nd, at_nd]
  by_cases e : x = y
  · rw [if_pos e, if_pos e]; exact hp
  · rw [if_neg e, if_neg e]
    rcases side (t := lf) w1 w2 hb hx e with ⟨g, q⟩ | ⟨g, q⟩
    · rw [if_pos g, if_pos g]
      exact h1 lo y y a3 q (fun h => by have := bst_mem l w1 lo y a3 y h; omega)
    · rw [if_neg g, if_neg g]
      exact h2 y hi y a4 q (fun h => by have := bst_mem r w2 y hi a4 y h; omega))
theorem gd0 (y : Int) (xs : List Int) (p : Nat) : (y :: xs).getD (p + 1) 0 = xs.getD p 0 := by simp
theorem wy_pre (k : Int) : ∀ t : Tr, tr_wf t → ∀ lo hi : Int, bst lo hi t → ∀ p : Nat, p < (wy k t).length → wy ((wy k t).getD p 0) t = (wy k t).take (p + 1) := tr_ind (fun _ _ _ p h => by rw [wy_lf] at h; simp at h) (fun y l r w1 w2 h1 h2 lo hi hb p hp => by
  obtain ⟨a1, a2, a3, a4⟩ := bst_nd.mp hb
  rw [wy_nd k] at hp ⊢
  cases p with
  | zero => rw [List.getD_cons_zero, wy_nd, if_pos rfl]; simp
  | succ p =>
    rw [List.length_cons] at hp
    rw [gd0, List.take_succ_cons]
    by_cases e : k = y
    · rw [if_pos e] at hp; simp at hp
    · rw [if_neg e] at hp ⊢
      by_cases g : k < y
      · rw [if_pos g] at hp ⊢
        have hm : (wy k l).getD p 0 ∈ wy k l := by
          rw [List.getD_eq_getElem?_getD, List.getElem?_eq_getElem (by omega)]
          exact List.getElem_mem _
        have q := bst_mem l w1 lo y a3 _ (wy_sub l w1 k _ hm)
        rw [wy_nd, if_neg (by omega), if_pos q.2, h1 lo y a3 p (by omega)]
      · rw [if_neg g] at hp ⊢
        have hm : (wy k r).getD p 0 ∈ wy k r := by
          rw [List.getD_eq_getElem?_getD, List.getElem?_eq_getElem (by omega)]
          exact List.getElem_mem _
        have q := bst_mem r w2 y hi a4 _ (wy_sub r w2 k _ hm)
        rw [wy_nd, if_neg (by omega), if_neg (by omega), h2 y hi a4 p (by omega)])
theorem ins_wy2 (k x : Int) : ∀ t : Tr, tr_wf t → ∀ lo hi : Int, bst lo hi t → x ∈ ks t → wy x (ins k t) = wy x t := tr_ind (fun _ _ _ h => by rw [ks_lf] at h; cases h) (fun y l r w1 w2 h1 h2 lo hi hb hx => by
  obtain ⟨a1, a2, a3, a4⟩ := bst_nd.mp hb
  rw [ins_nd]
  by_cases g : k < y
  · rw [if_pos g, wy_nd, wy_nd]
    by_cases e : x = y
    · rw [if_pos e, if_pos e]
    · rw [if_neg e, if_neg e]
      rcases side (t := lf) w1 w2 hb hx e with ⟨c, q⟩ | ⟨c, q⟩
      · rw [if_pos c, if_pos c, h1 lo y a3 q]
      · rw [if_neg c, if_neg c]
  · rw [if_neg g, wy_nd, wy_nd]
    by_cases e : x = y
    · rw [if_pos e, if_pos e]
    · rw [if_neg e, if_neg e]
      rcases side (t := lf) w1 w2 hb hx e with ⟨c, q⟩ | ⟨c, q⟩
      · rw [if_pos c, if_pos c]
      · rw [if_neg c, if_neg c, h2 y hi a4 q])
theorem getD_mem {xs : List Int} {p : Nat} (h : p < xs.length) : xs.getD p 0 ∈ xs := by
  rw [List.getD_eq_getElem?_getD, List.getElem?_eq_getElem h]
  exact List.getElem_mem _
theorem last_gd (xs : List Int) (h : 0 < xs.length) : xs.getD (xs.length - 1) 0 = xs.getLastD (-1) := by
  rw [List.getD_eq_getElem?_getD, ← List.getLast?_eq_getElem?]
  cases xs with
  | nil => simp at h
  | cons a b =>
    rw [List.getLastD_cons, List.getLast?_cons, Option.getD_some]
    cases b with
    | nil => rfl
    | cons c d => rw [List.getLastD_cons]; simp [List.getLast?_cons, List.getLastD_eq_getLast?]
theorem take_gd {xs : List Int} {p : Nat} (h : p < xs.length) : xs.take (p + 1) = xs.take p ++ [xs.getD p 0] := by
  rw [List.take_succ, List.getD_eq_getElem?_getD, List.getElem?_eq_getElem h]
  rfl
