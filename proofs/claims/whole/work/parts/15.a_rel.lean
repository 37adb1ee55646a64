/-! both: what stands for what -/
theorem ii_l3 : (3 : Int32) = ii 3 := rfl
theorem ii_l4 : (4 : Int32) = ii 4 := rfl
theorem ii_l5 : (5 : Int32) = ii 5 := rfl
theorem ii_l6 : (6 : Int32) = ii 6 := rfl
theorem ii_l7 : (7 : Int32) = ii 7 := rfl
theorem ii_l8 : (8 : Int32) = ii 8 := rfl
theorem ii_l10 : (10 : Int32) = ii 10 := rfl
theorem ii_l31 : (31 : Int32) = ii 31 := rfl
theorem ii_l44 : (44 : Int32) = ii 44 := rfl
theorem ii_l48 : (48 : Int32) = ii 48 := rfl
theorem ii_l52 : (52 : Int32) = ii 52 := rfl
theorem ii_l54 : (54 : Int32) = ii 54 := rfl
theorem ii_l57 : (57 : Int32) = ii 57 := rfl
theorem ii_l59 : (59 : Int32) = ii 59 := rfl
theorem ii_l60 : (60 : Int32) = ii 60 := rfl
theorem ii_l61 : (61 : Int32) = ii 61 := rfl
theorem ii_l99 : (99 : Int32) = ii 99 := rfl
theorem ii_l101 : (101 : Int32) = ii 101 := rfl
theorem ii_l102 : (102 : Int32) = ii 102 := rfl
theorem ii_l103 : (103 : Int32) = ii 103 := rfl
theorem ii_l104 : (104 : Int32) = ii 104 := rfl
theorem ii_l108 : (108 : Int32) = ii 108 := rfl
theorem ii_l110 : (110 : Int32) = ii 110 := rfl
theorem ii_l115 : (115 : Int32) = ii 115 := rfl
theorem ii_l126 : (126 : Int32) = ii 126 := rfl
theorem ii_l999 : (999 : Int32) = ii 999 := rfl
theorem ii_l100000 : (100000 : Int32) = ii 100000 := rfl
theorem ii_l65536 : (65536 : Int32) = ii 65536 := rfl
theorem in6 {k lo hi : Int} (h1 : -2147483648 ≤ k) (h2 : k < 2147483648) {x y : Int64} (hx : x.toInt = lo) (hy : y.toInt = hi) : fX6_in (ii k).toInt64 x y = some (if lo ≤ k ∧ k ≤ hi then ii 1 else ii 0) := by
  unfold fX6_in
  simp only [lg_cmp_lt, lg_cmp_gt, Int64.lt_iff_toInt_lt, Int32.toInt_toInt64, ii_toInt h1 h2, hx, hy]
  by_cases e : k < lo
  · rw [if_pos e, if_neg (by omega)]; rfl
  · rw [if_neg e]
    by_cases g : hi < k
    · rw [if_pos g, if_neg (by omega)]; rfl
    · rw [if_neg g, if_pos (by omega)]; rfl
theorem ii_all (x : Int32) : ∃ k, x = ii k ∧ -2147483648 ≤ k ∧ k < 2147483648 := ⟨x.toInt, (ii_of x).symm, ii_lo x, ii_hi x⟩
def oq (S : SX6) := (gX6_page S, gX6_pageMany S, gX6_ratioA S, gX6_ratioB S, gX6_fee S, gX6_shelvesRead S, gX6_keptShelf S, gX6_keptRoot S, gX6_keptMany S, gX6_keptMost S, gX6_keptBuilt S, gX6_keptCost S, gX6_keptCredit S, gX6_keptLowest S, gX6_keptLogMany S, gX6_keptSeen S, gX6_keptLeft S, gX6_keptRight S, gX6_keptAbove S, gX6_keptThere S, gX6_keptKinds S, gX6_keptValues S, gX6_keptLog S, gX6_keptSights S)
theorem oq_page {S S' : SX6} (h : oq S' = oq S) : gX6_page S' = gX6_page S := congrArg (fun x => x.1) h
theorem oq_pageMany {S S' : SX6} (h : oq S' = oq S) : gX6_pageMany S' = gX6_pageMany S := congrArg (fun x => x.2.1) h
theorem oq_ratioA {S S' : SX6} (h : oq S' = oq S) : gX6_ratioA S' = gX6_ratioA S := congrArg (fun x => x.2.2.1) h
theorem oq_ratioB {S S' : SX6} (h : oq S' = oq S) : gX6_ratioB S' = gX6_ratioB S := congrArg (fun x => x.2.2.2.1) h
theorem oq_fee {S S' : SX6} (h : oq S' = oq S) : gX6_fee S' = gX6_fee S := congrArg (fun x => x.2.2.2.2.1) h
theorem oq_shelvesRead {S S' : SX6} (h : oq S' = oq S) : gX6_shelvesRead S' = gX6_shelvesRead S := congrArg (fun x => x.2.2.2.2.2.1) h
theorem oq_keptShelf {S S' : SX6} (h : oq S' = oq S) : gX6_keptShelf S' = gX6_keptShelf S := congrArg (fun x => x.2.2.2.2.2.2.1) h
theorem oq_keptRoot {S S' : SX6} (h : oq S' = oq S) : gX6_keptRoot S' = gX6_keptRoot S := congrArg (fun x => x.2.2.2.2.2.2.2.1) h
theorem oq_keptMany {S S' : SX6} (h : oq S' = oq S) : gX6_keptMany S' = gX6_keptMany S := congrArg (fun x => x.2.2.2.2.2.2.2.2.1) h
theorem oq_keptMost {S S' : SX6} (h : oq S' = oq S) : gX6_keptMost S' = gX6_keptMost S := congrArg (fun x => x.2.2.2.2.2.2.2.2.2.1) h
theorem oq_keptBuilt {S S' : SX6} (h : oq S' = oq S) : gX6_keptBuilt S' = gX6_keptBuilt S := congrArg (fun x => x.2.2.2.2.2.2.2.2.2.2.1) h
theorem oq_keptCost {S S' : SX6} (h : oq S' = oq S) : gX6_keptCost S' = gX6_keptCost S := congrArg (fun x => x.2.2.2.2.2.2.2.2.2.2.2.1) h
theorem oq_keptCredit {S S' : SX6} (h : oq S' = oq S) : gX6_keptCredit S' = gX6_keptCredit S := congrArg (fun x => x.2.2.2.2.2.2.2.2.2.2.2.2.1) h
theorem oq_keptLowest {S S' : SX6} (h : oq S' = oq S) : gX6_keptLowest S' = gX6_keptLowest S := congrArg (fun x => x.2.2.2.2.2.2.2.2.2.2.2.2.2.1) h
theorem oq_keptLogMany {S S' : SX6} (h : oq S' = oq S) : gX6_keptLogMany S' = gX6_keptLogMany S := congrArg (fun x => x.2.2.2.2.2.2.2.2.2.2.2.2.2.2.1) h
theorem oq_keptSeen {S S' : SX6} (h : oq S' = oq S) : gX6_keptSeen S' = gX6_keptSeen S := congrArg (fun x => x.2.2.2.2.2.2.2.2.2.2.2.2.2.2.2.1) h
theorem oq_keptLeft {S S' : SX6} (h : oq S' = oq S) : gX6_keptLeft S' = gX6_keptLeft S := congrArg (fun x => x.2.2.2.2.2.2.2.2.2.2.2.2.2.2.2.2.1) h
theorem oq_keptRight {S S' : SX6} (h : oq S' = oq S) : gX6_keptRight S' = gX6_keptRight S := congrArg (fun x => x.2.2.2.2.2.2.2.2.2.2.2.2.2.2.2.2.2.1) h
theorem oq_keptAbove {S S' : SX6} (h : oq S' = oq S) : gX6_keptAbove S' = gX6_keptAbove S := congrArg (fun x => x.2.2.2.2.2.2.2.2.2.2.2.2.2.2.2.2.2.2.1) h
theorem oq_keptThere {S S' : SX6} (h : oq S' = oq S) : gX6_keptThere S' = gX6_keptThere S := congrArg (fun x => x.2.2.2.2.2.2.2.2.2.2.2.2.2.2.2.2.2.2.2.1) h
theorem oq_keptKinds {S S' : SX6} (h : oq S' = oq S) : gX6_keptKinds S' = gX6_keptKinds S := congrArg (fun x => x.2.2.2.2.2.2.2.2.2.2.2.2.2.2.2.2.2.2.2.2.1) h
theorem oq_keptValues {S S' : SX6} (h : oq S' = oq S) : gX6_keptValues S' = gX6_keptValues S := congrArg (fun x => x.2.2.2.2.2.2.2.2.2.2.2.2.2.2.2.2.2.2.2.2.2.1) h
theorem oq_keptLog {S S' : SX6} (h : oq S' = oq S) : gX6_keptLog S' = gX6_keptLog S := congrArg (fun x => x.2.2.2.2.2.2.2.2.2.2.2.2.2.2.2.2.2.2.2.2.2.2.1) h
theorem oq_keptSights {S S' : SX6} (h : oq S' = oq S) : gX6_keptSights S' = gX6_keptSights S := congrArg (fun x => x.2.2.2.2.2.2.2.2.2.2.2.2.2.2.2.2.2.2.2.2.2.2.2) h
theorem ot_oq {S S' : SX6} (q0 : ot S' = ot S) : oq S' = oq S := by
  unfold oq
  rw [ot_page q0, ot_pageMany q0, ot_ratioA q0, ot_ratioB q0, ot_fee q0, ot_shelvesRead q0, ot_keptShelf q0, ot_keptRoot q0, ot_keptMany q0, ot_keptMost q0, ot_keptBuilt q0, ot_keptCost q0, ot_keptCredit q0, ot_keptLowest q0, ot_keptLogMany q0, ot_keptSeen q0, ot_keptLeft q0, ot_keptRight q0, ot_keptAbove q0, ot_keptThere q0, ot_keptKinds q0, ot_keptValues q0, ot_keptLog q0, ot_keptSights q0]
theorem ob_oq {S S' : SX6} (h : ob S' = ob S) : oq S' = oq S := congrArg (fun x => (x.1, x.2.1, x.2.2.2.2.1, x.2.2.2.2.2.1, x.2.2.2.2.2.2.1, x.2.2.2.2.2.2.2.2.2.1, x.2.2.2.2.2.2.2.2.2.2.2.2.2.1, x.2.2.2.2.2.2.2.2.2.2.2.2.2.2.1, x.2.2.2.2.2.2.2.2.2.2.2.2.2.2.2.1, x.2.2.2.2.2.2.2.2.2.2.2.2.2.2.2.2.1, x.2.2.2.2.2.2.2.2.2.2.2.2.2.2.2.2.2.1, x.2.2.2.2.2.2.2.2.2.2.2.2.2.2.2.2.2.2.1, x.2.2.2.2.2.2.2.2.2.2.2.2.2.2.2.2.2.2.2.1, x.2.2.2.2.2.2.2.2.2.2.2.2.2.2.2.2.2.2.2.2.1, x.2.2.2.2.2.2.2.2.2.2.2.2.2.2.2.2.2.2.2.2.2.1, x.2.2.2.2.2.2.2.2.2.2.2.2.2.2.2.2.2.2.2.2.2.2.1, x.2.2.2.2.2.2.2.2.2.2.2.2.2.2.2.2.2.2.2.2.2.2.2.1, x.2.2.2.2.2.2.2.2.2.2.2.2.2.2.2.2.2.2.2.2.2.2.2.2.1, x.2.2.2.2.2.2.2.2.2.2.2.2.2.2.2.2.2.2.2.2.2.2.2.2.2.1, x.2.2.2.2.2.2.2.2.2.2.2.2.2.2.2.2.2.2.2.2.2.2.2.2.2.2.1, x.2.2.2.2.2.2.2.2.2.2.2.2.2.2.2.2.2.2.2.2.2.2.2.2.2.2.2.1, x.2.2.2.2.2.2.2.2.2.2.2.2.2.2.2.2.2.2.2.2.2.2.2.2.2.2.2.2.1, x.2.2.2.2.2.2.2.2.2.2.2.2.2.2.2.2.2.2.2.2.2.2.2.2.2.2.2.2.2.1, x.2.2.2.2.2.2.2.2.2.2.2.2.2.2.2.2.2.2.2.2.2.2.2.2.2.2.2.2.2.2.1)) h
/-- two rows by keys, alike -/
def kv (f g : Nat → Int32) (hi : Int) : Prop := ∀ k, 0 ≤ k → k < 100 → rd f k = rd g k ∧ 0 ≤ rd g k ∧ rd g k ≤ hi
theorem kv_upd {f g : Nat → Int32} {hi : Int} (h : kv f g hi) (hh : hi ≤ 1000) {k w : Int} (k0 : 0 ≤ k) (k1 : k < 100) (w0 : 0 ≤ w) (w1 : w ≤ hi) : kv (upd f (ii k).toNatClampNeg (ii w)) (upd g (ii k).toNatClampNeg (ii w)) hi := fun j j0 j1 => by
  rw [rd_upd f k0 (by omega) (by omega) (by omega) j0, rd_upd g k0 (by omega) (by omega) (by omega) j0]
  by_cases e : j = k
  · rw [if_pos e, if_pos e]; exact ⟨rfl, w0, w1⟩
  · rw [if_neg e, if_neg e]; exact h j j0 j1
/-- a LOG as keys that come and go: those that are there then, and how many -/
def tg (s : (Int → Bool) × Int) (x : Int) : (Int → Bool) × Int := if s.1 x = true then (fun k => if k = x then false else s.1 k, s.2 - 1) else (fun k => if k = x then true else s.1 k, s.2 + 1)
def ts (xs : List Int) : (Int → Bool) × Int := xs.foldl tg (fun _ => false, 0)
theorem ts_app (xs : List Int) (x : Int) : ts (xs ++ [x]) = tg (ts xs) x := by unfold ts; rw [List.foldl_append]; rfl
def sm (v : Tr) (s : (Int → Bool) × Int) : Prop := (∀ k, s.1 k = decide (k ∈ ks v)) ∧ s.2 = sz v
def lgR (K G : Nat → Int32) (xs : List Int) : Prop := xs.length ≤ 60 ∧ ∀ i : Nat, i < xs.length → (0 ≤ xs.getD i 0 ∧ xs.getD i 0 < 100) ∧ rd K i = xs.getD i 0 ∧ ((ts (xs.take i)).1 (xs.getD i 0) = true → rd G i = -1 - xs.getD i 0) ∧ (¬ (ts (xs.take i)).1 (xs.getD i 0) = true → rd G i = xs.getD i 0 ∧ (ts (xs.take i)).2 ≤ 39)
/-- what is SEEN -/
def sb (w : Int) : Int32 := if w = 0 then 13 else if w = 1 then 15 else if w = 2 then 4 else 23
def ft (w c : Int) : Int32 := if c = 1 then sb w else 31 - sb w
def snR (K F G : Nat → Int32) (q : Nat) : Prop := q ≤ 6 ∧ ∀ i : Nat, i < q → rd K i = rd G (3 * i) ∧ (0 ≤ rd G (3 * i + 1) ∧ rd G (3 * i + 1) ≤ 3) ∧ (rd G (3 * i + 2) = 0 ∨ rd G (3 * i + 2) = 1) ∧ F (ii i).toNatClampNeg = ft (rd G (3 * i + 1)) (rd G (3 * i + 2))
/-- a shelf of the class, and the reference's -/
def sq (n : Int) (o : Bool) (s : SX3) (M : SX6) (v : Tr) (a b m d c f x y : Int) (xs : List Int) (q : Nat) : Prop :=
  (ct (gX3_tree s) v ∧ rc M 0 v ∧ cn (gX3_tree s) a b m d c ∧ nm M 0 m d c ∧ (gX6_ratioA M = ii a ∧ gX6_ratioB M = ii b) ∧ (0 ≤ m ∧ m ≤ 40)) ∧
  ((o = true → rat a b ∧ 1 ≤ f ∧ f ≤ 9) ∧ (o = false → b = 0 ∧ a = 0 ∧ f = 0 ∧ v = lf)) ∧
  (gX3_fee s = ii f ∧ gX6_fee M = ii f) ∧
  (kv (gX3_kinds s) (gX6_kinds M) 4 ∧ kv (gX3_values s) (gX6_values M) 999) ∧
  (gX3_credit s = ii x ∧ gX6_credit M = ii x ∧ gX3_lowest s = ii y ∧ gX6_lowest M = ii y ∧ -(500 * n) ≤ y ∧ y ≤ x ∧ x ≤ 500 * n) ∧
  (gX0_length (gX3_log s) = ii xs.length ∧ gX6_logMany M = ii xs.length ∧ lgR (gX0_keys (gX3_log s)) (gX6_log M) xs ∧ (xs.length < 60 → sm v (ts xs))) ∧
  (gX2_length (gX3_seen s) = ii q ∧ gX6_seenMany M = ii q ∧ snR (gX2_keys (gX3_seen s)) (gX2_fitting (gX3_seen s)) (gX6_sights M) q)
def sr (n : Int) (o : Bool) (s : SX3) (M : SX6) : Prop := ∃ v a b m d c f x y xs q, sq n o s M v a b m d c f x y xs q
theorem sr_mono {n n' : Int} {o : Bool} {s : SX3} {M : SX6} (h : sr n o s M) (hn : n ≤ n') : sr n' o s M := by
  obtain ⟨v, a, b, m, d, c, f, x, y, xs, q, h1, h2, h3, h4, ⟨e1, e2, e3, e4, e5, e6, e7⟩, h6, h7⟩ := h
  exact ⟨v, a, b, m, d, c, f, x, y, xs, q, h1, h2, h3, h4, ⟨e1, e2, e3, e4, by omega, e6, by omega⟩, h6, h7⟩
/-- all that a shelf of the reference is, alike -/
def eqv (M M' : SX6) : Prop := zo M M' ∧ zn M M' ∧ (∀ k, 0 ≤ k → k < 100 → rd (gX6_kinds M') k = rd (gX6_kinds M) k ∧ rd (gX6_values M') k = rd (gX6_values M) k) ∧ (gX6_ratioA M' = gX6_ratioA M ∧ gX6_ratioB M' = gX6_ratioB M ∧ gX6_fee M' = gX6_fee M) ∧ (∀ k, 0 ≤ k → k < 60 → rd (gX6_log M') k = rd (gX6_log M) k) ∧ (gX6_logMany M' = gX6_logMany M ∧ gX6_seenMany M' = gX6_seenMany M) ∧ (∀ k, 0 ≤ k → k < 18 → rd (gX6_sights M') k = rd (gX6_sights M) k)
theorem rc_zo {M M' : SX6} {v : Tr} (h : rc M 0 v) (z : zo M M') : rc M' 0 v := by
  obtain ⟨w, hb, hz, L, R, U, H, ⟨a1, a2, a3, a4, a5, a6⟩, hp, hu, hh⟩ := h
  refine ⟨w, hb, hz, L, R, U, H, ⟨fun k k0 k1 => ?_, fun k k0 k1 => ?_, fun k k0 k1 => ?_, fun k k0 k1 => ?_, z.2.1.trans a5, z.2.2.trans a6⟩, hp, hu, hh⟩
  · have q := a1 k k0 k1
    rw [show (100 : Int) * 0 + k = k by omega] at q ⊢
    rw [(z.1 k k0 k1).1, q]
  · have q := a2 k k0 k1
    rw [show (100 : Int) * 0 + k = k by omega] at q ⊢
    rw [(z.1 k k0 k1).2.1, q]
  · have q := a3 k k0 k1
    rw [show (100 : Int) * 0 + k = k by omega] at q ⊢
    rw [(z.1 k k0 k1).2.2.1, q]
  · have q := a4 k k0 k1
    rw [show (100 : Int) * 0 + k = k by omega] at q ⊢
    rw [(z.1 k k0 k1).2.2.2, q]
theorem sr_eqv {n : Int} {o : Bool} {s : SX3} {M M' : SX6} (h : sr n o s M) (g : eqv M M') : sr n o s M' := by
  obtain ⟨v, a, b, m, d, c, f, x, y, xs, q, ⟨t1, t2, t3, t4, t5, t6⟩, h2, h3, h4, ⟨e1, e2, e3, e4, e5, e6, e7⟩, ⟨l1, l2, l3, l4⟩, ⟨q1, q2, q3⟩⟩ := h
  obtain ⟨g1, g2, g3, ⟨g4, g5, g6⟩, g7, ⟨g8, g9⟩, g10⟩ := g
  refine ⟨v, a, b, m, d, c, f, x, y, xs, q, ⟨t1, rc_zo t2 g1, t3, ⟨g2.1.trans t4.1, g2.2.1.trans t4.2.1, g2.2.2.1.trans t4.2.2⟩, ⟨g4.trans t5.1, g5.trans t5.2⟩, t6⟩, h2, ⟨h3.1, g6.trans h3.2⟩, ⟨fun k k0 k1 => ?_, fun k k0 k1 => ?_⟩, ⟨e1, g2.2.2.2.1.trans e2, e3, g2.2.2.2.2.trans e4, e5, e6, e7⟩, ⟨l1, g8.trans l2, ⟨l3.1, fun i hi => ?_⟩, l4⟩, ⟨q1, g9.trans q2, ⟨q3.1, fun i hi => ?_⟩⟩⟩
  · rw [(g3 k k0 k1).1]; exact h4.1 k k0 k1
  · rw [(g3 k k0 k1).2]; exact h4.2 k k0 k1
  · rw [g7 i (by omega) (by have := l3.1; omega)]; exact l3.2 i hi
  · have := q3.1
    rw [g10 (3 * i) (by omega) (by omega), g10 (3 * i + 1) (by omega) (by omega), g10 (3 * i + 2) (by omega) (by omega)]
    exact q3.2 i hi
/-- the reference with what its IMAGE keeps -/
def kr6 (M : SX6) : SX6 := sX6_seenMany (sX6_logMany (sX6_lowest (sX6_credit (sX6_cost (sX6_built (sX6_most (sX6_many (sX6_root (sX6_sights (sX6_log (sX6_values (sX6_kinds (sX6_there (sX6_above (sX6_right (sX6_left M (gX6_keptLeft M)) (gX6_keptRight M)) (gX6_keptAbove M)) (gX6_keptThere M)) (gX6_keptKinds M)) (gX6_keptValues M)) (gX6_keptLog M)) (gX6_keptSights M)) (upd (gX6_root M) (ii 0).toNatClampNeg (gX6_keptRoot M))) (upd (gX6_many M) (ii 0).toNatClampNeg (gX6_keptMany M))) (upd (gX6_most M) (ii 0).toNatClampNeg (gX6_keptMost M))) (upd (gX6_built M) (ii 0).toNatClampNeg (gX6_keptBuilt M))) (upd (gX6_cost M) (ii 0).toNatClampNeg (gX6_keptCost M))) (gX6_keptCredit M)) (gX6_keptLowest M)) (gX6_keptLogMany M)) (gX6_keptSeen M)
theorem rd_u0 (f : Nat → Int32) (x : Int32) : rd (upd f (ii 0).toNatClampNeg x) 0 = x.toInt := by
  obtain ⟨k, e, h1, h2⟩ := ii_all x
  rw [e, rd_upd f (by omega) (by omega) h1 h2 (by omega), if_pos rfl, ii_toInt h1 h2]
def okp (S : SX6) := (gX6_ratioA S, gX6_ratioB S, gX6_fee S, gX6_keptRoot S, gX6_keptMany S, gX6_keptMost S, gX6_keptBuilt S, gX6_keptCost S, gX6_keptCredit S, gX6_keptLowest S, gX6_keptLogMany S, gX6_keptSeen S, gX6_keptLeft S, gX6_keptRight S, gX6_keptAbove S, gX6_keptThere S, gX6_keptKinds S, gX6_keptValues S, gX6_keptLog S, gX6_keptSights S)
theorem okp_ratioA {S S' : SX6} (h : okp S' = okp S) : gX6_ratioA S' = gX6_ratioA S := congrArg (fun x => x.1) h
theorem okp_ratioB {S S' : SX6} (h : okp S' = okp S) : gX6_ratioB S' = gX6_ratioB S := congrArg (fun x => x.2.1) h
theorem okp_fee {S S' : SX6} (h : okp S' = okp S) : gX6_fee S' = gX6_fee S := congrArg (fun x => x.2.2.1) h
theorem okp_keptRoot {S S' : SX6} (h : okp S' = okp S) : gX6_keptRoot S' = gX6_keptRoot S := congrArg (fun x => x.2.2.2.1) h
theorem okp_keptMany {S S' : SX6} (h : okp S' = okp S) : gX6_keptMany S' = gX6_keptMany S := congrArg (fun x => x.2.2.2.2.1) h
theorem okp_keptMost {S S' : SX6} (h : okp S' = okp S) : gX6_keptMost S' = gX6_keptMost S := congrArg (fun x => x.2.2.2.2.2.1) h
theorem okp_keptBuilt {S S' : SX6} (h : okp S' = okp S) : gX6_keptBuilt S' = gX6_keptBuilt S := congrArg (fun x => x.2.2.2.2.2.2.1) h
theorem okp_keptCost {S S' : SX6} (h : okp S' = okp S) : gX6_keptCost S' = gX6_keptCost S := congrArg (fun x => x.2.2.2.2.2.2.2.1) h
theorem okp_keptCredit {S S' : SX6} (h : okp S' = okp S) : gX6_keptCredit S' = gX6_keptCredit S := congrArg (fun x => x.2.2.2.2.2.2.2.2.1) h
theorem okp_keptLowest {S S' : SX6} (h : okp S' = okp S) : gX6_keptLowest S' = gX6_keptLowest S := congrArg (fun x => x.2.2.2.2.2.2.2.2.2.1) h
theorem okp_keptLogMany {S S' : SX6} (h : okp S' = okp S) : gX6_keptLogMany S' = gX6_keptLogMany S := congrArg (fun x => x.2.2.2.2.2.2.2.2.2.2.1) h
theorem okp_keptSeen {S S' : SX6} (h : okp S' = okp S) : gX6_keptSeen S' = gX6_keptSeen S := congrArg (fun x => x.2.2.2.2.2.2.2.2.2.2.2.1) h
theorem okp_keptLeft {S S' : SX6} (h : okp S' = okp S) : gX6_keptLeft S' = gX6_keptLeft S := congrArg (fun x => x.2.2.2.2.2.2.2.2.2.2.2.2.1) h
theorem okp_keptRight {S S' : SX6} (h : okp S' = okp S) : gX6_keptRight S' = gX6_keptRight S := congrArg (fun x => x.2.2.2.2.2.2.2.2.2.2.2.2.2.1) h
theorem okp_keptAbove {S S' : SX6} (h : okp S' = okp S) : gX6_keptAbove S' = gX6_keptAbove S := congrArg (fun x => x.2.2.2.2.2.2.2.2.2.2.2.2.2.2.1) h
theorem okp_keptThere {S S' : SX6} (h : okp S' = okp S) : gX6_keptThere S' = gX6_keptThere S := congrArg (fun x => x.2.2.2.2.2.2.2.2.2.2.2.2.2.2.2.1) h
theorem okp_keptKinds {S S' : SX6} (h : okp S' = okp S) : gX6_keptKinds S' = gX6_keptKinds S := congrArg (fun x => x.2.2.2.2.2.2.2.2.2.2.2.2.2.2.2.2.1) h
theorem okp_keptValues {S S' : SX6} (h : okp S' = okp S) : gX6_keptValues S' = gX6_keptValues S := congrArg (fun x => x.2.2.2.2.2.2.2.2.2.2.2.2.2.2.2.2.2.1) h
theorem okp_keptLog {S S' : SX6} (h : okp S' = okp S) : gX6_keptLog S' = gX6_keptLog S := congrArg (fun x => x.2.2.2.2.2.2.2.2.2.2.2.2.2.2.2.2.2.2.1) h
theorem okp_keptSights {S S' : SX6} (h : okp S' = okp S) : gX6_keptSights S' = gX6_keptSights S := congrArg (fun x => x.2.2.2.2.2.2.2.2.2.2.2.2.2.2.2.2.2.2.2) h
theorem oq_okp {S S' : SX6} (h : oq S' = oq S) : okp S' = okp S := congrArg (fun x => (x.2.2.1, x.2.2.2.1, x.2.2.2.2.1, x.2.2.2.2.2.2.2.1, x.2.2.2.2.2.2.2.2.1, x.2.2.2.2.2.2.2.2.2.1, x.2.2.2.2.2.2.2.2.2.2.1, x.2.2.2.2.2.2.2.2.2.2.2.1, x.2.2.2.2.2.2.2.2.2.2.2.2.1, x.2.2.2.2.2.2.2.2.2.2.2.2.2.1, x.2.2.2.2.2.2.2.2.2.2.2.2.2.2.1, x.2.2.2.2.2.2.2.2.2.2.2.2.2.2.2.1, x.2.2.2.2.2.2.2.2.2.2.2.2.2.2.2.2.1, x.2.2.2.2.2.2.2.2.2.2.2.2.2.2.2.2.2.1, x.2.2.2.2.2.2.2.2.2.2.2.2.2.2.2.2.2.2.1, x.2.2.2.2.2.2.2.2.2.2.2.2.2.2.2.2.2.2.2.1, x.2.2.2.2.2.2.2.2.2.2.2.2.2.2.2.2.2.2.2.2.1, x.2.2.2.2.2.2.2.2.2.2.2.2.2.2.2.2.2.2.2.2.2.1, x.2.2.2.2.2.2.2.2.2.2.2.2.2.2.2.2.2.2.2.2.2.2.1, x.2.2.2.2.2.2.2.2.2.2.2.2.2.2.2.2.2.2.2.2.2.2.2)) h
theorem kr_eqv2 {M M' : SX6} (h : okp M' = okp M) : eqv (kr6 M) (kr6 M') := by
  refine ⟨⟨fun k _ _ => ⟨?_, ?_, ?_, ?_⟩, ?_, ?_⟩, ⟨?_, ?_, ?_, okp_keptCredit h, okp_keptLowest h⟩, fun k _ _ => ⟨?_, ?_⟩, ⟨okp_ratioA h, okp_ratioB h, okp_fee h⟩, fun k _ _ => ?_, ⟨okp_keptLogMany h, okp_keptSeen h⟩, fun k _ _ => ?_⟩
  · show rd (gX6_keptLeft M') k = rd (gX6_keptLeft M) k
    rw [okp_keptLeft h]
  · show rd (gX6_keptRight M') k = rd (gX6_keptRight M) k
    rw [okp_keptRight h]
  · show rd (gX6_keptAbove M') k = rd (gX6_keptAbove M) k
    rw [okp_keptAbove h]
  · show rd (gX6_keptThere M') k = rd (gX6_keptThere M) k
    rw [okp_keptThere h]
  · show rd (upd (gX6_root M') (ii 0).toNatClampNeg (gX6_keptRoot M')) 0 = rd (upd (gX6_root M) (ii 0).toNatClampNeg (gX6_keptRoot M)) 0
    rw [rd_u0, rd_u0, okp_keptRoot h]
  · show rd (upd (gX6_many M') (ii 0).toNatClampNeg (gX6_keptMany M')) 0 = rd (upd (gX6_many M) (ii 0).toNatClampNeg (gX6_keptMany M)) 0
    rw [rd_u0, rd_u0, okp_keptMany h]
  · show upd (gX6_most M') (ii 0).toNatClampNeg (gX6_keptMost M') (ii 0).toNatClampNeg = upd (gX6_most M) (ii 0).toNatClampNeg (gX6_keptMost M) (ii 0).toNatClampNeg
    rw [upd_1, upd_1, okp_keptMost h]
  · show upd (gX6_built M') (ii 0).toNatClampNeg (gX6_keptBuilt M') (ii 0).toNatClampNeg = upd (gX6_built M) (ii 0).toNatClampNeg (gX6_keptBuilt M) (ii 0).toNatClampNeg
    rw [upd_1, upd_1, okp_keptBuilt h]
  · show upd (gX6_cost M') (ii 0).toNatClampNeg (gX6_keptCost M') (ii 0).toNatClampNeg = upd (gX6_cost M) (ii 0).toNatClampNeg (gX6_keptCost M) (ii 0).toNatClampNeg
    rw [upd_1, upd_1, okp_keptCost h]
  · show rd (gX6_keptKinds M') k = rd (gX6_keptKinds M) k
    rw [okp_keptKinds h]
  · show rd (gX6_keptValues M') k = rd (gX6_keptValues M) k
    rw [okp_keptValues h]
  · show rd (gX6_keptLog M') k = rd (gX6_keptLog M) k
    rw [okp_keptLog h]
  · show rd (gX6_keptSights M') k = rd (gX6_keptSights M) k
    rw [okp_keptSights h]
theorem kr_eqv {M M' : SX6} (h : oq M' = oq M) : eqv (kr6 M) (kr6 M') := kr_eqv2 (oq_okp h)
/-- THE PAGE -/
def pgR (p : SX1) (F : Nat → Int32) (L : Int32) (P : Int) : Prop := gX1_length p = ii P ∧ L = ii P ∧ 0 ≤ P ∧ P ≤ 54 ∧ ∀ j, 0 ≤ j → j < P → rd (gX1_letters p) j = rd F j ∧ 1 ≤ rd F j ∧ rd F j ≤ 126
def fg (o : Bool) : Int32 := if o = true then ii 1 else ii 0
/-- all of the class, all of the reference, behind n units of what can be done -/
def Inv (n : Int) (C : SX5) (M : SX6) : Prop := ∃ (o g : Bool) (P r q : Int), (gX5_open C = fg o ∧ gX5_imaged C = fg g) ∧ pgR (gX5_page C) (gX6_page M) (gX6_pageMany M) P ∧ (gX5_timesRead C = ii r ∧ gX6_shelvesRead M = ii r ∧ gX6_keptShelf M = ii q ∧ 0 ≤ r ∧ r ≤ n ∧ -1 ≤ q ∧ q ≤ r ∧ (g = true ↔ q = r) ∧ (g = true → o = true)) ∧ sr n o (gX5_now C) M ∧ (g = true → sr n true (gX5_kept C) (kr6 M))
theorem Inv_keep {n n' : Int} {C C' : SX5} {M M' : SX6} {o g : Bool} {P r q : Int} (hn : n ≤ n')
    (h1 : gX5_open C = fg o ∧ gX5_imaged C = fg g) (h2 : pgR (gX5_page C) (gX6_page M) (gX6_pageMany M) P) (h3 : gX5_timesRead C = ii r ∧ gX6_shelvesRead M = ii r ∧ gX6_keptShelf M = ii q ∧ 0 ≤ r ∧ r ≤ n ∧ -1 ≤ q ∧ q ≤ r ∧ (g = true ↔ q = r) ∧ (g = true → o = true)) (h5 : g = true → sr n true (gX5_kept C) (kr6 M))
    (c1 : gX5_open C' = gX5_open C) (c2 : gX5_imaged C' = gX5_imaged C) (c3 : gX5_page C' = gX5_page C) (c4 : gX5_timesRead C' = gX5_timesRead C) (c5 : gX5_kept C' = gX5_kept C) (e : oq M' = oq M) (h4 : sr n' o (gX5_now C') M') : Inv n' C' M' := by
  refine ⟨o, g, P, r, q, ⟨c1.trans h1.1, c2.trans h1.2⟩, ?_, ⟨c4.trans h3.1, (oq_shelvesRead e).trans h3.2.1, (oq_keptShelf e).trans h3.2.2.1, h3.2.2.2.1, by have := h3.2.2.2.2.1; omega, h3.2.2.2.2.2⟩, h4, fun z => ?_⟩
  · rw [c3, oq_page e, oq_pageMany e]; exact h2
  · rw [c5]; exact sr_mono (sr_eqv (h5 z) (kr_eqv e)) hn
theorem Inv_mono {n n' : Int} {C : SX5} {M : SX6} (h : Inv n C M) (hn : n ≤ n') : Inv n' C M := by
  obtain ⟨o, g, P, r, q, h1, h2, h3, h4, h5⟩ := h
  exact Inv_keep hn h1 h2 h3 h5 rfl rfl rfl rfl rfl rfl (sr_mono h4 hn)
/-- what is only tried -/
def sc (M M' : SX6) : Prop := oq M' = oq M ∧ zo M M' ∧ zn M M' ∧ gX6_kinds M' = gX6_kinds M ∧ gX6_values M' = gX6_values M ∧ gX6_log M' = gX6_log M ∧ gX6_logMany M' = gX6_logMany M ∧ gX6_seenMany M' = gX6_seenMany M ∧ gX6_sights M' = gX6_sights M ∧ gX6_hash M' = gX6_hash M
theorem sc_refl (M : SX6) : sc M M := ⟨rfl, zo_refl M, zn_refl M, rfl, rfl, rfl, rfl, rfl, rfl, rfl⟩
theorem sc_trans {A B C : SX6} (h : sc A B) (g : sc B C) : sc A C := ⟨g.1.trans h.1, zo_trans h.2.1 g.2.1, zn_trans h.2.2.1 g.2.2.1, g.2.2.2.1.trans h.2.2.2.1, g.2.2.2.2.1.trans h.2.2.2.2.1, g.2.2.2.2.2.1.trans h.2.2.2.2.2.1, g.2.2.2.2.2.2.1.trans h.2.2.2.2.2.2.1, g.2.2.2.2.2.2.2.1.trans h.2.2.2.2.2.2.2.1, g.2.2.2.2.2.2.2.2.1.trans h.2.2.2.2.2.2.2.2.1, g.2.2.2.2.2.2.2.2.2.trans h.2.2.2.2.2.2.2.2.2⟩
theorem sc_eqv {M M' : SX6} (h : sc M M') : eqv M M' := by
  obtain ⟨h1, h2, h3, h4, h5, h6, h7, h8, h9, -⟩ := h
  exact ⟨h2, h3, fun k _ _ => by rw [h4, h5]; exact ⟨rfl, rfl⟩, ⟨oq_ratioA h1, oq_ratioB h1, oq_fee h1⟩, fun k _ _ => by rw [h6], ⟨h7, h8⟩, fun k _ _ => by rw [h9]⟩
theorem hi_sc {M M' : SX6} (h : hi_ 1 M M') : sc M M' := ⟨ot_oq h.1, (h.2 rfl).1, (h.2 rfl).2, ot_kinds h.1, ot_values h.1, ot_log h.1, ot_logMany h.1, ot_seenMany h.1, ot_sights h.1, ot_hash h.1⟩
theorem Inv_sc {n : Int} {C C' : SX5} {M M' : SX6} (h : Inv n C M) (s : sc M M') (c1 : gX5_open C' = gX5_open C) (c2 : gX5_imaged C' = gX5_imaged C) (c3 : gX5_page C' = gX5_page C) (c4 : gX5_timesRead C' = gX5_timesRead C) (c5 : gX5_kept C' = gX5_kept C) (c6 : sr n = sr n → ∀ o, sr n o (gX5_now C) M → sr n o (gX5_now C') M) : Inv n C' M' := by
  obtain ⟨o, g, P, r, q, h1, h2, h3, h4, h5⟩ := h
  exact Inv_keep (by omega) h1 h2 h3 h5 c1 c2 c3 c4 c5 s.1 (sr_eqv (c6 rfl o h4) (sc_eqv s))
theorem ab0 {M : SX6} {a b : Int} (h : gX6_ratioA M = ii a ∧ gX6_ratioB M = ii b) : ab M 0 a b := by
  unfold ab fX6_a fX6_b
  rw [if_pos (show ii 0 = 0 from rfl), if_pos (show ii 0 = 0 from rfl), h.1, h.2]
  exact ⟨rfl, rfl⟩
theorem lacks6 {M : SX6} {n : Int} {o : Bool} {s : SX3} {v : Tr} {a b m d c f x y : Int} {xs : List Int} {q : Nat} (h : sq n o s M v a b m d c f x y xs q) : fX6_lacks M = some (if o = true then ii 0 else ii 1) := by
  obtain ⟨⟨-, -, -, -, hb, -⟩, ho, -⟩ := h
  unfold fX6_lacks
  rw [hb.2]
  cases o with
  | true =>
    have := (ho.1 rfl).1
    have hr' : 3 ≤ b ∧ b ≤ 5 := by unfold rat at this; omega
    rw [if_neg (fun z => by rw [ii_l0, ii_eq (by omega) (by omega) (by omega) (by omega)] at z; omega), if_pos rfl]
    rfl
  | false =>
    have := (ho.2 rfl).1
    rw [this, if_pos (show ii 0 = 0 from rfl), if_neg (by decide)]
    rfl
theorem lacksT {M : SX6} {n : Int} {s : SX3} {v : Tr} {a b m d c f x y : Int} {xs : List Int} {q : Nat} (h : sq n true s M v a b m d c f x y xs q) : fX6_lacks M = some (ii 0) := lacks6 h
theorem lacksF {M : SX6} {n : Int} {s : SX3} {v : Tr} {a b m d c f x y : Int} {xs : List Int} {q : Nat} (h : sq n false s M v a b m d c f x y xs q) : fX6_lacks M = some (ii 1) := lacks6 h
theorem z0_ : ii 0 = (0 : Int32) := rfl
theorem z1_ : ¬ ii 1 = (0 : Int32) := by decide
theorem fgF : fg false = (0 : Int32) := rfl
theorem fgT : ¬ fg true = (0 : Int32) := by decide
