/-! the reference's trees: rows, links -/
def fu (f : Int → Int) (k v j : Int) : Int := if j = k then v else f j
theorem fu_p (f : Int → Int) {k v j : Int} (h : j = k) : fu f k v j = v := if_pos h
theorem fu_n (f : Int → Int) {k v j : Int} (h : ¬ j = k) : fu f k v j = f j := if_neg h
def ar (S : SX6) (t : Int) (L R U H : Int → Int) (r n : Int) : Prop := (∀ k, 0 ≤ k → k < 100 → rd (gX6_left S) (100 * t + k) = L k) ∧ (∀ k, 0 ≤ k → k < 100 → rd (gX6_right S) (100 * t + k) = R k) ∧ (∀ k, 0 ≤ k → k < 100 → rd (gX6_above S) (100 * t + k) = U k) ∧ (∀ k, 0 ≤ k → k < 100 → rd (gX6_there S) (100 * t + k) = H k) ∧ rd (gX6_root S) t = r ∧ rd (gX6_many S) t = n
/-- the first tree is as it was -/
def zo (S S' : SX6) : Prop := (∀ k, 0 ≤ k → k < 100 → rd (gX6_left S') k = rd (gX6_left S) k ∧ rd (gX6_right S') k = rd (gX6_right S) k ∧ rd (gX6_above S') k = rd (gX6_above S) k ∧ rd (gX6_there S') k = rd (gX6_there S) k) ∧ rd (gX6_root S') 0 = rd (gX6_root S) 0 ∧ rd (gX6_many S') 0 = rd (gX6_many S) 0
def lo (t : Int) (S S' : SX6) : Prop := ou S' = ou S ∧ (t = 1 → zo S S')
theorem zo_refl (S : SX6) : zo S S := ⟨fun _ _ _ => ⟨rfl, rfl, rfl, rfl⟩, rfl, rfl⟩
theorem zo_trans {A B C : SX6} (h : zo A B) (g : zo B C) : zo A C := ⟨fun k a b => ⟨((g.1 k a b).1).trans (h.1 k a b).1, ((g.1 k a b).2.1).trans (h.1 k a b).2.1, ((g.1 k a b).2.2.1).trans (h.1 k a b).2.2.1, ((g.1 k a b).2.2.2).trans (h.1 k a b).2.2.2⟩, g.2.1.trans h.2.1, g.2.2.trans h.2.2⟩
theorem lo_refl (t : Int) (S : SX6) : lo t S S := ⟨rfl, fun _ => zo_refl S⟩
theorem lo_trans {t : Int} {A B C : SX6} (h : lo t A B) (g : lo t B C) : lo t A C := ⟨g.1.trans h.1, fun e => zo_trans (h.2 e) (g.2 e)⟩
theorem ix (t k : Int) : ii 100 * ii t + ii k = ii (100 * t + k) := by rw [ii_mul, ii_add]
theorem ig {t k : Int} (ht : t = 0 ∨ t = 1) (h1 : 0 ≤ k) (h2 : k < 100) : 0 ≤ (ii (100 * t + k)).toInt ∧ (ii (100 * t + k)).toInt < 200 := ii_in (by omega) (by omega) (by omega)
theorem ig2 {t : Int} (ht : t = 0 ∨ t = 1) : 0 ≤ (ii t).toInt ∧ (ii t).toInt < 2 := ii_in (by omega) (by omega) (by omega)
theorem rd_t {f : Nat → Int32} {t k v j : Int} (ht : t = 0 ∨ t = 1) (h1 : 0 ≤ k) (h2 : k < 100) (h3 : -1 ≤ v) (h4 : v < 100) (h5 : 0 ≤ j) : rd (upd f (ii (100 * t + k)).toNatClampNeg (ii v)) (100 * t + j) = fu (fun i => rd f (100 * t + i)) k v j := by
  rw [rd_upd f (by omega) (by omega) (by omega) (by omega) (by omega)]
  by_cases e : j = k
  · rw [fu_p _ e, if_pos (by omega)]
  · rw [fu_n _ e, if_neg (by omega)]
theorem rd_o {f : Nat → Int32} {t k v j : Int} (e : t = 1) (h1 : 0 ≤ k) (h2 : k < 100) (h3 : -1 ≤ v) (h4 : v < 100) (h5 : 0 ≤ j) (h6 : j < 100) : rd (upd f (ii (100 * t + k)).toNatClampNeg (ii v)) j = rd f j := by
  rw [rd_upd f (by omega) (by omega) (by omega) (by omega) (by omega), if_neg (by omega)]
theorem rd_1 {f : Nat → Int32} {t v : Int} (ht : t = 0 ∨ t = 1) (h3 : -1 ≤ v) (h4 : v < 100) : rd (upd f (ii t).toNatClampNeg (ii v)) t = v := by
  rw [rd_upd f (by omega) (by omega) (by omega) (by omega) (by omega), if_pos rfl]
theorem rd_10 {f : Nat → Int32} {t v : Int} (e : t = 1) (h3 : -1 ≤ v) (h4 : v < 100) : rd (upd f (ii t).toNatClampNeg (ii v)) 0 = rd f 0 := by
  rw [rd_upd f (by omega) (by omega) (by omega) (by omega) (by omega), if_neg (by omega)]
section
variable {S : SX6} {t : Int} {L R U H : Int → Int} {r n : Int}
theorem ar_l (h : ar S t L R U H r n) (ht : t = 0 ∨ t = 1) {k : Int} (k0 : 0 ≤ k) (k1 : k < 100) : gX6_left S (ii (100 * t + k)).toNatClampNeg = ii (L k) := by rw [qX6_left S (by omega) (by omega), h.1 k k0 k1]
theorem ar_r (h : ar S t L R U H r n) (ht : t = 0 ∨ t = 1) {k : Int} (k0 : 0 ≤ k) (k1 : k < 100) : gX6_right S (ii (100 * t + k)).toNatClampNeg = ii (R k) := by rw [qX6_right S (by omega) (by omega), h.2.1 k k0 k1]
theorem ar_u (h : ar S t L R U H r n) (ht : t = 0 ∨ t = 1) {k : Int} (k0 : 0 ≤ k) (k1 : k < 100) : gX6_above S (ii (100 * t + k)).toNatClampNeg = ii (U k) := by rw [qX6_above S (by omega) (by omega), h.2.2.1 k k0 k1]
theorem ar_h (h : ar S t L R U H r n) (ht : t = 0 ∨ t = 1) {k : Int} (k0 : 0 ≤ k) (k1 : k < 100) : gX6_there S (ii (100 * t + k)).toNatClampNeg = ii (H k) := by rw [qX6_there S (by omega) (by omega), h.2.2.2.1 k k0 k1]
theorem ar_ro (h : ar S t L R U H r n) (ht : t = 0 ∨ t = 1) : gX6_root S (ii t).toNatClampNeg = ii r := by rw [qX6_root S (by omega) (by omega), h.2.2.2.2.1]
theorem ar_n (h : ar S t L R U H r n) (ht : t = 0 ∨ t = 1) : gX6_many S (ii t).toNatClampNeg = ii n := by rw [qX6_many S (by omega) (by omega), h.2.2.2.2.2]
theorem ar_ext (h : ar S t L R U H r n) {L' R' U' H' : Int → Int} {r' n' : Int} (hL : ∀ k, 0 ≤ k → k < 100 → L k = L' k) (hR : ∀ k, 0 ≤ k → k < 100 → R k = R' k) (hU : ∀ k, 0 ≤ k → k < 100 → U k = U' k) (hH : ∀ k, 0 ≤ k → k < 100 → H k = H' k) (hr : r = r') (hn : n = n') : ar S t L' R' U' H' r' n' :=
  ⟨fun k a b => (h.1 k a b).trans (hL k a b), fun k a b => (h.2.1 k a b).trans (hR k a b), fun k a b => (h.2.2.1 k a b).trans (hU k a b), fun k a b => (h.2.2.2.1 k a b).trans (hH k a b), h.2.2.2.2.1.trans hr, h.2.2.2.2.2.trans hn⟩
theorem fu_rd {f : Nat → Int32} {F : Int → Int} (h : ∀ k, 0 ≤ k → k < 100 → rd f (100 * t + k) = F k) (ht : t = 0 ∨ t = 1) {k v : Int} (k0 : 0 ≤ k) (k1 : k < 100) (v0 : -1 ≤ v) (v1 : v < 100) : ∀ j, 0 ≤ j → j < 100 → rd (upd f (ii (100 * t + k)).toNatClampNeg (ii v)) (100 * t + j) = fu F k v j := fun j a b => by
  rw [rd_t ht k0 k1 v0 v1 a]
  by_cases e : j = k
  · rw [fu_p _ e, fu_p _ e]
  · rw [fu_n _ e, fu_n _ e, h j a b]
theorem w_l (h : ar S t L R U H r n) (ht : t = 0 ∨ t = 1) {k v : Int} (k0 : 0 ≤ k) (k1 : k < 100) (v0 : -1 ≤ v) (v1 : v < 100) : ar (sX6_left S (upd (gX6_left S) (ii (100 * t + k)).toNatClampNeg (ii v))) t (fu L k v) R U H r n := ⟨fu_rd h.1 ht k0 k1 v0 v1, h.2⟩
theorem w_r (h : ar S t L R U H r n) (ht : t = 0 ∨ t = 1) {k v : Int} (k0 : 0 ≤ k) (k1 : k < 100) (v0 : -1 ≤ v) (v1 : v < 100) : ar (sX6_right S (upd (gX6_right S) (ii (100 * t + k)).toNatClampNeg (ii v))) t L (fu R k v) U H r n := ⟨h.1, fu_rd h.2.1 ht k0 k1 v0 v1, h.2.2⟩
theorem w_u (h : ar S t L R U H r n) (ht : t = 0 ∨ t = 1) {k v : Int} (k0 : 0 ≤ k) (k1 : k < 100) (v0 : -1 ≤ v) (v1 : v < 100) : ar (sX6_above S (upd (gX6_above S) (ii (100 * t + k)).toNatClampNeg (ii v))) t L R (fu U k v) H r n := ⟨h.1, h.2.1, fu_rd h.2.2.1 ht k0 k1 v0 v1, h.2.2.2⟩
theorem w_h (h : ar S t L R U H r n) (ht : t = 0 ∨ t = 1) {k v : Int} (k0 : 0 ≤ k) (k1 : k < 100) (v0 : -1 ≤ v) (v1 : v < 100) : ar (sX6_there S (upd (gX6_there S) (ii (100 * t + k)).toNatClampNeg (ii v))) t L R U (fu H k v) r n := ⟨h.1, h.2.1, h.2.2.1, fu_rd h.2.2.2.1 ht k0 k1 v0 v1, h.2.2.2.2⟩
theorem w_ro (h : ar S t L R U H r n) (ht : t = 0 ∨ t = 1) {v : Int} (v0 : -1 ≤ v) (v1 : v < 100) : ar (sX6_root S (upd (gX6_root S) (ii t).toNatClampNeg (ii v))) t L R U H v n := ⟨h.1, h.2.1, h.2.2.1, h.2.2.2.1, rd_1 ht v0 v1, h.2.2.2.2.2⟩
theorem w_n (h : ar S t L R U H r n) (ht : t = 0 ∨ t = 1) {v : Int} (v0 : -1 ≤ v) (v1 : v < 100) : ar (sX6_many S (upd (gX6_many S) (ii t).toNatClampNeg (ii v))) t L R U H r v := ⟨h.1, h.2.1, h.2.2.1, h.2.2.2.1, h.2.2.2.2.1, rd_1 ht v0 v1⟩
theorem l_l (S : SX6) {k v : Int} (k0 : 0 ≤ k) (k1 : k < 100) (v0 : -1 ≤ v) (v1 : v < 100) : lo t S (sX6_left S (upd (gX6_left S) (ii (100 * t + k)).toNatClampNeg (ii v))) := ⟨rfl, fun e => ⟨fun j a b => ⟨rd_o e k0 k1 v0 v1 a b, rfl, rfl, rfl⟩, rfl, rfl⟩⟩
theorem l_r (S : SX6) {k v : Int} (k0 : 0 ≤ k) (k1 : k < 100) (v0 : -1 ≤ v) (v1 : v < 100) : lo t S (sX6_right S (upd (gX6_right S) (ii (100 * t + k)).toNatClampNeg (ii v))) := ⟨rfl, fun e => ⟨fun j a b => ⟨rfl, rd_o e k0 k1 v0 v1 a b, rfl, rfl⟩, rfl, rfl⟩⟩
theorem l_u (S : SX6) {k v : Int} (k0 : 0 ≤ k) (k1 : k < 100) (v0 : -1 ≤ v) (v1 : v < 100) : lo t S (sX6_above S (upd (gX6_above S) (ii (100 * t + k)).toNatClampNeg (ii v))) := ⟨rfl, fun e => ⟨fun j a b => ⟨rfl, rfl, rd_o e k0 k1 v0 v1 a b, rfl⟩, rfl, rfl⟩⟩
theorem l_h (S : SX6) {k v : Int} (k0 : 0 ≤ k) (k1 : k < 100) (v0 : -1 ≤ v) (v1 : v < 100) : lo t S (sX6_there S (upd (gX6_there S) (ii (100 * t + k)).toNatClampNeg (ii v))) := ⟨rfl, fun e => ⟨fun j a b => ⟨rfl, rfl, rfl, rd_o e k0 k1 v0 v1 a b⟩, rfl, rfl⟩⟩
theorem l_ro (S : SX6) {v : Int} (v0 : -1 ≤ v) (v1 : v < 100) : lo t S (sX6_root S (upd (gX6_root S) (ii t).toNatClampNeg (ii v))) := ⟨rfl, fun e => ⟨fun j a b => ⟨rfl, rfl, rfl, rfl⟩, rd_10 e v0 v1, rfl⟩⟩
theorem l_n (S : SX6) {v : Int} (v0 : -1 ≤ v) (v1 : v < 100) : lo t S (sX6_many S (upd (gX6_many S) (ii t).toNatClampNeg (ii v))) := ⟨rfl, fun e => ⟨fun j a b => ⟨rfl, rfl, rfl, rfl⟩, rfl, rd_10 e v0 v1⟩⟩
theorem i_ne {a b : Int} (a0 : -1 ≤ a) (a1 : a < 1000000) (b0 : -1 ≤ b) (b1 : b < 1000000) (h : a ≠ b) : ¬ ii a = ii b := fun z => h ((ii_eq (by omega) (by omega) (by omega) (by omega)).mp z)
/-- HANG -/
theorem hang6 (h : ar S t L R U H r n) (ht : t = 0 ∨ t = 1) {k p : Int} (k0 : -1 ≤ k) (k1 : k < 100) (p0 : -1 ≤ p) (p1 : p < 100) : ∃ S', fX6_hang S (ii t) (ii k) (ii p) = some S' ∧ lo t S S' ∧ ar S' t L R (if k = -1 then U else fu U k p) H (if p = -1 then k else r) n := by
  unfold fX6_hang
  simp only [ii_l0, ii_l1, ii_l2, ii_l40, ii_l100, ii_neg, cv_lt_eq, ix]
  by_cases e : k = -1
  · rw [if_pos (by rw [e]), cv_bd_some, if_pos e]
    by_cases g : p = -1
    · rw [if_pos (by rw [g]), cv_gd_pos (ig2 ht), if_pos g]
      exact ⟨_, rfl, l_ro S k0 k1, w_ro h ht k0 k1⟩
    · rw [if_neg (i_ne p0 (by omega) (by omega) (by omega) g), if_neg g]
      exact ⟨S, rfl, lo_refl t S, h⟩
  · rw [if_neg (i_ne k0 (by omega) (by omega) (by omega) e), cv_gd_pos (ig ht (by omega) k1), cv_bd_some, if_neg e]
    by_cases g : p = -1
    · rw [if_pos (by rw [g]), cv_gd_pos (ig2 ht), if_pos g]
      exact ⟨_, rfl, lo_trans (l_u S (by omega) k1 p0 p1) (l_ro _ k0 k1), w_ro (w_u h ht (by omega) k1 p0 p1) ht k0 k1⟩
    · rw [if_neg (i_ne p0 (by omega) (by omega) (by omega) g), if_neg g]
      exact ⟨_, rfl, l_u S (by omega) k1 p0 p1, w_u h ht (by omega) k1 p0 p1⟩
/-- REPLACE -/
theorem replace6 (h : ar S t L R U H r n) (ht : t = 0 ∨ t = 1) {x k : Int} (x0 : 0 ≤ x) (x1 : x < 100) (k0 : -1 ≤ k) (k1 : k < 100) (u0 : -1 ≤ U x) (u1 : U x < 100) (hl : U x ≠ -1 → -1 ≤ L (U x) ∧ L (U x) < 100) : ∃ S', fX6_replace S (ii t) (ii x) (ii k) = some S' ∧ lo t S S' ∧
    ar S' t (if U x ≠ -1 ∧ L (U x) = x then fu L (U x) k else L) (if U x ≠ -1 ∧ L (U x) ≠ x then fu R (U x) k else R) (if k = -1 then U else fu U k (U x)) H (if U x = -1 then k else r) n := by
  unfold fX6_replace
  simp only [ii_l0, ii_l1, ii_l2, ii_l40, ii_l100, ii_neg, cv_lt_eq, ix]
  rw [cv_gd_pos (ig ht x0 x1), ar_u h ht x0 x1]
  obtain ⟨p, hp⟩ : ∃ p, p = U x := ⟨_, rfl⟩
  rw [← hp] at u0 u1 hl ⊢
  simp only [ix]
  by_cases e : p = -1
  · rw [if_pos (by rw [e]), if_pos (by rw [e]), cv_bd_some, if_neg (fun z => z.1 e), if_neg (fun z => z.1 e)]
    obtain ⟨S', e1, e2, e3⟩ := hang6 h ht k0 k1 u0 u1
    exact ⟨S', cv_bd_eq e1 _, e2, e3⟩
  · have hl' := hl e
    rw [if_neg (i_ne u0 (by omega) (by omega) (by omega) e), cv_gd_pos (ig ht (by omega) u1), ar_l h ht (by omega) u1]
    by_cases g : L p = x
    · rw [if_pos (by rw [g]), cv_gd_pos (ig ht (by omega) u1), cv_bd_some, if_pos ⟨e, g⟩, if_neg (fun z => z.2 g)]
      obtain ⟨S', e1, e2, e3⟩ := hang6 (w_l h ht (k := p) (v := k) (by omega) u1 k0 k1) ht k0 k1 u0 u1
      exact ⟨S', cv_bd_eq e1 _, lo_trans (l_l S (by omega) u1 k0 k1) e2, e3⟩
    · rw [if_neg (i_ne hl'.1 (by omega) (by omega) (by omega) g), if_neg (i_ne u0 (by omega) (by omega) (by omega) e), cv_gd_pos (ig ht (by omega) u1), cv_bd_some, if_neg (fun z => g z.2), if_pos ⟨e, g⟩]
      obtain ⟨S', e1, e2, e3⟩ := hang6 (w_r h ht (k := p) (v := k) (by omega) u1 k0 k1) ht k0 k1 u0 u1
      exact ⟨S', cv_bd_eq e1 _, lo_trans (l_r S (by omega) u1 k0 k1) e2, e3⟩
end
