/-! the law: its own rows -/
def lq_A (s : State) : Nat → Prop := fun q => s.heap.size ≤ q
abbrev lq_lv (i : Int) (qa qb : Nat → Nat) (b : Nat) : List (Nat × Value) := [(0, .ref b), (1, .ref (qa 0)), (2, .ref (qb 0)), (3, .int (ii i))]
abbrev lq_C (p : Program) (s : State) (m : MethodId) (c : Code) (b : Nat) (σ : Nat → Nat) (D : va_G) (cy : ClassId) : Prop := cv_C p s m #[Value.ref b] c code 4 RL wsL_law σ D [(cy, .int)] (lq_A s)
def lq_X (s : State) (b L : Nat) (xs : Nat → Int32) : Prop := va_X b L xs s s.heap ∧ b < s.heap.size ∧ L ≤ 2048
theorem cv_sld {p : Program} {l : Launch} {e : Env} {R : Room} {s : State} {m : MethodId} {args : Array Value} {below : List Frame} {meth : Method} {c : Code} {cc : ByteArray} {nL : Nat} {own : String} {Ts : List Cond} {σ : Nat → Nat} {D : va_G} {tys : List (ClassId × FieldType)} {A : Nat → Prop} {Q : State → Prop} {cells slots : Nat} {ws : va_W} {pc : Nat} {lv : List (Nat × Value)} {st : List Value} {q b L : Nat} {xs : Nat → Int32} {i : Int32} (C : cv_C p s m args c cc nL own Ts σ D tys A) (hX : va_X b L xs s s.heap) (hbl : b < s.heap.size) (hbA : ¬ A b) (hi : vp_in i L) (d : decode cc pc = .ok (.iaload, 1)) (hq : pc + 1 = q)
    (k : cv_V p l e R s m args below meth c nL D A Q cells slots ws q lv (.int (xs i.toNatClampNeg) :: st)) : cv_V p l e R s m args below meth c nL D A Q cells slots ws pc lv (.int i :: .ref b :: st) := by
  subst hq
  exact fun H locs ls hP hD hS hl => va_sld C.1 C.2.1 hX hbl hbA hS hi d (k H locs ls hP hD hS hl)
theorem cv_slen {p : Program} {l : Launch} {e : Env} {R : Room} {s : State} {m : MethodId} {args : Array Value} {below : List Frame} {meth : Method} {c : Code} {cc : ByteArray} {nL : Nat} {own : String} {Ts : List Cond} {σ : Nat → Nat} {D : va_G} {tys : List (ClassId × FieldType)} {A : Nat → Prop} {Q : State → Prop} {cells slots : Nat} {ws : va_W} {pc : Nat} {lv : List (Nat × Value)} {st : List Value} {q b L : Nat} {xs : Nat → Int32} (C : cv_C p s m args c cc nL own Ts σ D tys A) (hX : va_X b L xs s s.heap) (hbl : b < s.heap.size) (hbA : ¬ A b) (d : decode cc pc = .ok (.arraylength, 1)) (hq : pc + 1 = q)
    (k : cv_V p l e R s m args below meth c nL D A Q cells slots ws q lv (.int (Int32.ofNat L) :: st)) : cv_V p l e R s m args below meth c nL D A Q cells slots ws pc lv (.ref b :: st) := by
  subst hq
  exact fun H locs ls hP hD hS hl => va_slen C.1 C.2.1 hX hbl hbA hS d (k H locs ls hP hD hS hl)
section LQ
variable {p : Program} {l : Launch} {e : Env} {s : State} {m : MethodId} {below : List Frame} {meth : Method} {c : Code} {σ : Nat → Nat} {D : va_G} {cy : ClassId} {b L : Nat} {xs : Nat → Int32} {qa qb : Nat → Nat} {ws : va_W} {st st0 : List Value} {pc q : Nat} {Q : State → Prop} {lv : List (Nat × Value)}
theorem lq_out (hX : lq_X s b L xs) : ¬ lq_A s b := Nat.not_le.mpr hX.2.1
theorem lq_in {i : Int} (h0 : 0 ≤ i) (h1 : i < L) (hX : lq_X s b L xs) : vp_in (ii i) L := vp_in_iff.mpr (ii_in h0 h1 (by have := hX.2.2; omega))
/-- a place of the script, some behind the counter -/
theorem lq_rd {i : Int} (k : Int) (hk : 0 ≤ k ∧ k ≤ 3) (C : lq_C p s m c b σ D cy) (X : lq_X s b L xs) (hi : 0 ≤ i ∧ i + 4 ≤ L) (d0 : decode code pc = .ok (.aload_n 0, 1)) (d1 : decode code (pc + 1) = .ok (.iload_n 3, 1)) (d2 : decode code (pc + 2) = .ok (.iconst k, 1)) (d3 : decode code (pc + 3) = .ok (.iadd, 1)) (d4 : decode code (pc + 4) = .ok (.iaload, 1)) (hq : pc + 5 = q)
    (kk : cv_V p l e room_1 s m #[Value.ref b] below meth c 4 D (lq_A s) Q 64 4242 ws q (lq_lv i qa qb b) (.int (xs (ii i + ii k).toNatClampNeg) :: st)) : cv_V p l e room_1 s m #[Value.ref b] below meth c 4 D (lq_A s) Q 64 4242 ws pc (lq_lv i qa qb b) st := by
  subst hq
  refine cv_aload_n (i := 0) (q := pc + 1) 0 C d0 rfl rfl rfl ?_
  refine cv_iload_n (i := 3) (q := pc + 2) 3 C d1 rfl rfl rfl ?_
  refine cv_iconst (v := ii k) (q := pc + 3) C d2 rfl rfl ?_
  refine cv_iadd (q := pc + 4) C d3 rfl ?_
  refine cv_sld (q := pc + 5) C X.1 X.2.1 (lq_out X) ?_ d4 rfl kk
  rw [ii_add]
  exact lq_in (by omega) (by omega) X
/-- whether a number isn't 0 -/
theorem lq_nz {x : Int32} (C : lq_C p s m c b σ D cy) (d0 : decode code pc = .ok (.ifCond .eq 7, 3)) (d1 : decode code (pc + 3) = .ok (.iconst 1, 1)) (d2 : decode code (pc + 4) = .ok (.goto 4, 3)) (d3 : decode code (pc + 7) = .ok (.iconst 0, 1)) (hq : pc + 8 = q)
    (kk : cv_V p l e room_1 s m #[Value.ref b] below meth c 4 D (lq_A s) Q 64 4242 ws q lv (.int (if x = 0 then 0 else 1) :: st)) : cv_V p l e room_1 s m #[Value.ref b] below meth c 4 D (lq_A s) Q 64 4242 ws pc lv (.int x :: st) := by
  subst hq
  refine cv_if_eq (tgt := pc + 7) (q := pc + 3) C d0 (by omega) rfl (fun h => ?_) (fun h => ?_)
  · rw [if_pos h] at kk
    exact cv_iconst (v := 0) (q := pc + 8) C d3 rfl rfl kk
  · rw [if_neg h] at kk
    refine cv_iconst (v := 1) (q := pc + 4) C d1 rfl rfl ?_
    exact cv_goto (tgt := pc + 8) C d2 (by omega) kk
variable {y : MethodName} {bytes : ByteArray} {maxL n index : Nat} {rt_ : Option FieldType} {wsy wsy' : List Cond} {rm : Room} {As : List Value} {r : Value} {S S' : SX5} {M M' : SX6}
set_option maxRecDepth 100000 in
/-- a call of the class -/
theorem lq_5 (C : lq_C p s m c b σ D cy) (hM : cv_M l y wsy rm σ D [(cy, .int)] (.ref (qa 0) :: As) (wX5 qa cy S) (some r) (wX5 qa cy S')) (hg : GoodIn wsL_law (wsV RL index RX5 y wsy)) (hw : wsy = Cond.code y bytes maxL rt_ :: wsy') (hrc : rm.cells = 0 ∧ rm.slots = 0)
    (hd : y.cls = RX5 ∧ y.cls ≠ "java/lang/invoke/MethodHandle" ∧ y.cls ≠ "java/lang/invoke/VarHandle" ∧ (parseMethodDescriptor y.desc).map (fun d => d.parameters.length) = some n) (hn : As.length = n) (hR : rm.frames + 1 ≤ room_1.frames ∧ 8 + (maxL + 11) + rm.locals ≤ room_1.locals) (hst : st0 = As.reverse ++ .ref (qa 0) :: st) (hwd : (st.map fun v => v.category).sum ≤ 8) (d : decode code pc = .ok (.invokevirtual index, 3)) (hq : pc + 3 = q)
    (kk : cv_V p l e room_1 s m #[Value.ref b] below meth c 4 D (lq_A s) Q 64 4242 (wX5 qa cy S' ++ wX6 qb cy M) q lv (r :: st)) : cv_V p l e room_1 s m #[Value.ref b] below meth c 4 D (lq_A s) Q 64 4242 (wX5 qa cy S ++ wX6 qb cy M) pc lv st0 :=
  cv_go (wc := wX5 qa cy S) (wr := wX6 qb cy M) (w1 := wX5 qa cy S') (ws' := wX5 qa cy S' ++ wX6 qb cy M) C hM (cv_rv (ci := 5) (q0 := 0) C hM rfl rfl hg hw hrc hd hn hR hst hwd d ⟨Nat.le_of_ble_eq_true rfl, Nat.le_of_ble_eq_true rfl⟩) [0, 1, 2, 3, 4, 5, 6, 7, 8, 9, 10, 11, 12, 13, 14, 15, 16, 17, 18, 19, 20, 21, 22, 23, 24, 25, 26, 27, 28, 29, 30, 31, 32, 33, 34, 35, 36] [37, 38, 39, 40, 41, 42, 43, 44, 45, 46, 47, 48, 49, 50, 51, 52, 53, 54, 55, 56, 57, 58, 59, 60, 61, 62, 63] rfl rfl (by decide +kernel) (by decide +kernel) (by decide +kernel) [27, 28, 29, 30, 31, 32, 33, 34, 35, 36, 37, 38, 39, 40, 41, 42, 43, 44, 45, 46, 47, 48, 49, 50, 51, 52, 53, 54, 55, 56, 57, 58, 59, 60, 61, 62, 63, 0, 1, 2, 3, 4, 5, 6, 7, 8, 9, 10, 11, 12, 13, 14, 15, 16, 17, 18, 19, 20, 21, 22, 23, 24, 25, 26] (by decide +kernel) rfl hq kk
set_option maxRecDepth 100000 in
/-- a call of the reference -/
theorem lq_6 (C : lq_C p s m c b σ D cy) (hM : cv_M l y wsy rm σ D [(cy, .int)] (.ref (qb 0) :: As) (wX6 qb cy M) (some r) (wX6 qb cy M')) (hg : GoodIn wsL_law (wsV RL index RX6 y wsy)) (hw : wsy = Cond.code y bytes maxL rt_ :: wsy') (hrc : rm.cells = 0 ∧ rm.slots = 0)
    (hd : y.cls = RX6 ∧ y.cls ≠ "java/lang/invoke/MethodHandle" ∧ y.cls ≠ "java/lang/invoke/VarHandle" ∧ (parseMethodDescriptor y.desc).map (fun d => d.parameters.length) = some n) (hn : As.length = n) (hR : rm.frames + 1 ≤ room_1.frames ∧ 8 + (maxL + 11) + rm.locals ≤ room_1.locals) (hst : st0 = As.reverse ++ .ref (qb 0) :: st) (hwd : (st.map fun v => v.category).sum ≤ 8) (d : decode code pc = .ok (.invokevirtual index, 3)) (hq : pc + 3 = q)
    (kk : cv_V p l e room_1 s m #[Value.ref b] below meth c 4 D (lq_A s) Q 64 4242 (wX5 qa cy S ++ wX6 qb cy M') q lv (r :: st)) : cv_V p l e room_1 s m #[Value.ref b] below meth c 4 D (lq_A s) Q 64 4242 (wX5 qa cy S ++ wX6 qb cy M) pc lv st0 :=
  cv_go (wc := wX6 qb cy M) (wr := wX5 qa cy S) (w1 := wX6 qb cy M') (ws' := wX5 qa cy S ++ wX6 qb cy M') C hM (cv_rv (ci := 6) (q0 := 37) C hM rfl rfl hg hw hrc hd hn hR hst hwd d ⟨Nat.le_of_ble_eq_true rfl, Nat.le_of_ble_eq_true rfl⟩) [37, 38, 39, 40, 41, 42, 43, 44, 45, 46, 47, 48, 49, 50, 51, 52, 53, 54, 55, 56, 57, 58, 59, 60, 61, 62, 63] [0, 1, 2, 3, 4, 5, 6, 7, 8, 9, 10, 11, 12, 13, 14, 15, 16, 17, 18, 19, 20, 21, 22, 23, 24, 25, 26, 27, 28, 29, 30, 31, 32, 33, 34, 35, 36] rfl rfl (by decide +kernel) (by decide +kernel) (by decide +kernel) [0, 1, 2, 3, 4, 5, 6, 7, 8, 9, 10, 11, 12, 13, 14, 15, 16, 17, 18, 19, 20, 21, 22, 23, 24, 25, 26, 27, 28, 29, 30, 31, 32, 33, 34, 35, 36, 37, 38, 39, 40, 41, 42, 43, 44, 45, 46, 47, 48, 49, 50, 51, 52, 53, 54, 55, 56, 57, 58, 59, 60, 61, 62, 63] (by decide +kernel) rfl hq kk
end LQ
/-- which case a number is -/
theorem lq_tab (z : Int32) : z = 0 ∨ z = 1 ∨ z = 2 ∨ z = 3 ∨ z = 4 ∨ z = 5 ∨ z = 6 ∨ z = 7 ∨ z = 8 ∨ z = 9 ∨ z = 10 ∨ z = 11 ∨ z = 12 ∨ z = 13 ∨ z = 14 ∨ z = 15 ∨ z = 16 ∨ z = 17 ∨ z = 18 ∨ z = 19 ∨ z = 20 ∨ z = 21 ∨ z = 22 ∨ z = 23 ∨ z = 24 ∨  (z.toInt < 0 ∨ 24 < z.toInt) := by
  obtain ⟨k, rfl, h1, h2⟩ := ii_all z
  by_cases h : 0 ≤ k ∧ k ≤ 24
  · have h3 : k = 0 ∨ k = 1 ∨ k = 2 ∨ k = 3 ∨ k = 4 ∨ k = 5 ∨ k = 6 ∨ k = 7 ∨ k = 8 ∨ k = 9 ∨ k = 10 ∨ k = 11 ∨ k = 12 ∨ k = 13 ∨ k = 14 ∨ k = 15 ∨ k = 16 ∨ k = 17 ∨ k = 18 ∨ k = 19 ∨ k = 20 ∨ k = 21 ∨ k = 22 ∨ k = 23 ∨ k = 24 := by omega
    rcases h3 with rfl | rfl | rfl | rfl | rfl | rfl | rfl | rfl | rfl | rfl | rfl | rfl | rfl | rfl | rfl | rfl | rfl | rfl | rfl | rfl | rfl | rfl | rfl | rfl | rfl
    · exact (Or.inl rfl)
    · exact (Or.inr (Or.inl rfl))
    · exact (Or.inr (Or.inr (Or.inl rfl)))
    · exact (Or.inr (Or.inr (Or.inr (Or.inl rfl))))
    · exact (Or.inr (Or.inr (Or.inr (Or.inr (Or.inl rfl)))))
    · exact (Or.inr (Or.inr (Or.inr (Or.inr (Or.inr (Or.inl rfl))))))
    · exact (Or.inr (Or.inr (Or.inr (Or.inr (Or.inr (Or.inr (Or.inl rfl)))))))
    · exact (Or.inr (Or.inr (Or.inr (Or.inr (Or.inr (Or.inr (Or.inr (Or.inl rfl))))))))
    · exact (Or.inr (Or.inr (Or.inr (Or.inr (Or.inr (Or.inr (Or.inr (Or.inr (Or.inl rfl)))))))))
    · exact (Or.inr (Or.inr (Or.inr (Or.inr (Or.inr (Or.inr (Or.inr (Or.inr (Or.inr (Or.inl rfl))))))))))
    · exact (Or.inr (Or.inr (Or.inr (Or.inr (Or.inr (Or.inr (Or.inr (Or.inr (Or.inr (Or.inr (Or.inl rfl)))))))))))
    · exact (Or.inr (Or.inr (Or.inr (Or.inr (Or.inr (Or.inr (Or.inr (Or.inr (Or.inr (Or.inr (Or.inr (Or.inl rfl))))))))))))
    · exact (Or.inr (Or.inr (Or.inr (Or.inr (Or.inr (Or.inr (Or.inr (Or.inr (Or.inr (Or.inr (Or.inr (Or.inr (Or.inl rfl)))))))))))))
    · exact (Or.inr (Or.inr (Or.inr (Or.inr (Or.inr (Or.inr (Or.inr (Or.inr (Or.inr (Or.inr (Or.inr (Or.inr (Or.inr (Or.inl rfl))))))))))))))
    · exact (Or.inr (Or.inr (Or.inr (Or.inr (Or.inr (Or.inr (Or.inr (Or.inr (Or.inr (Or.inr (Or.inr (Or.inr (Or.inr (Or.inr (Or.inl rfl)))))))))))))))
    · exact (Or.inr (Or.inr (Or.inr (Or.inr (Or.inr (Or.inr (Or.inr (Or.inr (Or.inr (Or.inr (Or.inr (Or.inr (Or.inr (Or.inr (Or.inr (Or.inl rfl))))))))))))))))
    · exact (Or.inr (Or.inr (Or.inr (Or.inr (Or.inr (Or.inr (Or.inr (Or.inr (Or.inr (Or.inr (Or.inr (Or.inr (Or.inr (Or.inr (Or.inr (Or.inr (Or.inl rfl)))))))))))))))))
    · exact (Or.inr (Or.inr (Or.inr (Or.inr (Or.inr (Or.inr (Or.inr (Or.inr (Or.inr (Or.inr (Or.inr (Or.inr (Or.inr (Or.inr (Or.inr (Or.inr (Or.inr (Or.inl rfl))))))))))))))))))
    · exact (Or.inr (Or.inr (Or.inr (Or.inr (Or.inr (Or.inr (Or.inr (Or.inr (Or.inr (Or.inr (Or.inr (Or.inr (Or.inr (Or.inr (Or.inr (Or.inr (Or.inr (Or.inr (Or.inl rfl)))))))))))))))))))
    · exact (Or.inr (Or.inr (Or.inr (Or.inr (Or.inr (Or.inr (Or.inr (Or.inr (Or.inr (Or.inr (Or.inr (Or.inr (Or.inr (Or.inr (Or.inr (Or.inr (Or.inr (Or.inr (Or.inr (Or.inl rfl))))))))))))))))))))
    · exact (Or.inr (Or.inr (Or.inr (Or.inr (Or.inr (Or.inr (Or.inr (Or.inr (Or.inr (Or.inr (Or.inr (Or.inr (Or.inr (Or.inr (Or.inr (Or.inr (Or.inr (Or.inr (Or.inr (Or.inr (Or.inl rfl)))))))))))))))))))))
    · exact (Or.inr (Or.inr (Or.inr (Or.inr (Or.inr (Or.inr (Or.inr (Or.inr (Or.inr (Or.inr (Or.inr (Or.inr (Or.inr (Or.inr (Or.inr (Or.inr (Or.inr (Or.inr (Or.inr (Or.inr (Or.inr (Or.inl rfl))))))))))))))))))))))
    · exact (Or.inr (Or.inr (Or.inr (Or.inr (Or.inr (Or.inr (Or.inr (Or.inr (Or.inr (Or.inr (Or.inr (Or.inr (Or.inr (Or.inr (Or.inr (Or.inr (Or.inr (Or.inr (Or.inr (Or.inr (Or.inr (Or.inr (Or.inl rfl)))))))))))))))))))))))
    · exact (Or.inr (Or.inr (Or.inr (Or.inr (Or.inr (Or.inr (Or.inr (Or.inr (Or.inr (Or.inr (Or.inr (Or.inr (Or.inr (Or.inr (Or.inr (Or.inr (Or.inr (Or.inr (Or.inr (Or.inr (Or.inr (Or.inr (Or.inr (Or.inl rfl))))))))))))))))))))))))
    · exact (Or.inr (Or.inr (Or.inr (Or.inr (Or.inr (Or.inr (Or.inr (Or.inr (Or.inr (Or.inr (Or.inr (Or.inr (Or.inr (Or.inr (Or.inr (Or.inr (Or.inr (Or.inr (Or.inr (Or.inr (Or.inr (Or.inr (Or.inr (Or.inr (Or.inl rfl)))))))))))))))))))))))))
  · rw [ii_toInt h1 h2]
    exact Or.inr (Or.inr (Or.inr (Or.inr (Or.inr (Or.inr (Or.inr (Or.inr (Or.inr (Or.inr (Or.inr (Or.inr (Or.inr (Or.inr (Or.inr (Or.inr (Or.inr (Or.inr (Or.inr (Or.inr (Or.inr (Or.inr (Or.inr (Or.inr (Or.inr (by omega)))))))))))))))))))))))))
