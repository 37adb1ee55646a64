/-! the walk with the world in the goal: cv_V; a uniform contract: cv_M -/
abbrev vwCl : List vw_C := [(RX0, TX0, 2), (RX1, TX1, 2), (RX2, TX2, 3), (RX3, TX3, 8), (RX4, TX4, 12), (RX5, TX5, 7), (RX6, TX6, 50)]
/-- what the class's table ABLE holds -/
def cv_able (j : Nat) : Int32 := ([13, 15, 4, 23] : List Int32).getD j 0
def cv_byt : List (List Int32) := [[110, 108, 99, 102, 115]]
def cv_bt (j : Nat) : Int32 := (cv_byt.getD 0 []).getD j 0
/-- calls of private members of nest mates -/
def cv_NW (U : State) : Prop := va_Nw (.methodLinkNest RX1 39 yX5_isRatio RX5) U ∧ va_Nw (.methodLinkNest RX5 11 yX1_init RX5) U ∧ va_Nw (.methodLinkNest RX5 18 yX3_init RX5) U ∧ va_Nw (.methodLinkNest RX5 28 yX4_init RX5) U ∧ va_Nw (.methodLinkNest RX3 11 yX4_init RX5) U ∧ va_Nw (.methodLinkNest RX3 27 yX0_init RX5) U ∧ va_Nw (.methodLinkNest RX3 34 yX2_init RX5) U
/-- what nobody writes: the table ABLE, the text "nlcfs", String's COMPACT_STRINGS, the nest mates' links -/
def cv_ST (σ : Nat → Nat) (A : Nat → Prop) (U : State) (H : Heap) : Prop := va_Z "CreditShelf" "ABLE" "[I" (.ref (σ 0)) A U H ∧ va_T .int (σ 0) 4 (fun j => .int (cv_able j)) A U H ∧ vk_R RX1 25 "nlcfs" (σ 1) U ∧ vk_S 1 [5] cv_byt (fun _ => σ 1) (fun _ => σ 2) A U H ∧ va_Z "java/lang/String" "COMPACT_STRINGS" "Z" (.int 1) A U H ∧ cv_NW U
theorem cv_ST.go {σ : Nat → Nat} {A B : Nat → Prop} {u U : State} {H H1 : Heap} (h : cv_ST σ A u H) (hW : u.WarmedH U.vm) (hq : ∀ a : Nat, a < H.size → ¬ A a → H1[a]? = H[a]?) (hAB : ∀ q, B q → A q) : cv_ST σ B U H1 := by
  obtain ⟨h1, h2, h3, h4, h5, n1, n2, n3, n4, n5, n6, n7⟩ := h
  exact ⟨((va_Z.moved hW.alike h1).kept hq).narrow hAB, ((va_T.moved hW.alike h2).kept hq).narrow hAB, vk_R.warm hW h3, ((vk_S.moved hW.alike h4).kept hq).narrow hAB, ((va_Z.moved hW.alike h5).kept hq).narrow hAB, n1.warmM hW, n2.warmM hW, n3.warmM hW, n4.warmM hW, n5.warmM hW, n6.warmM hW, n7.warmM hW⟩
theorem cv_ST.same {σ : Nat → Nat} {A : Nat → Prop} {u U : State} {H : Heap} (h : cv_ST σ A u H) (hv : U.vm = u.vm) : cv_ST σ A U H := by
  obtain ⟨h1, h2, h3, h4, h5, n1, n2, n3, n4, n5, n6, n7⟩ := h
  have ha : u.vm.Alike U.vm := by rw [hv]; exact Vm.Alike.refl u.vm
  exact ⟨va_Z.moved ha h1, va_T.moved ha h2, vk_R.same hv h3, vk_S.moved ha h4, va_Z.moved ha h5, n1.same rfl hv.symm, n2.same rfl hv.symm, n3.same rfl hv.symm, n4.same rfl hv.symm, n5.same rfl hv.symm, n6.same rfl hv.symm, n7.same rfl hv.symm⟩
def cv_Pc (σ : Nat → Nat) (D : va_G) (tys : List (ClassId × FieldType)) (As : List Value) (wc : va_W) (sz : Nat) : Array Value → State → Prop := va_Pc As (fun U => U.heap.size = sz ∧ va_P D vwCl wc U.heap ∧ va_K D vwCl tys U ∧ va_D (fun _ => True) wc ∧ cv_ST σ (va_A wc sz) U U.heap)
def cv_Qc (D : va_G) (tys : List (ClassId × FieldType)) (r : Option Value) (w1 : va_W) (A : Nat → Prop) : Array Value → State → Outcome → State → Prop := fun _ st oc t => (oc = .returned r ∧ va_P D vwCl w1 t.heap ∧ va_K D vwCl tys t ∧ va_D A w1) ∧ va_F A st t
/-- called with As in the world wc, y answers r, and the world is w1; nothing else has changed -/
def cv_M (l : Launch) (y : MethodName) (wsy : List Cond) (rm : Room) (σ : Nat → Nat) (D : va_G) (tys : List (ClassId × FieldType)) (As : List Value) (wc : va_W) (r : Option Value) (w1 : va_W) : Prop := ∀ sz : Nat, Met l y wsy rm (cv_Pc σ D tys As wc sz) (cv_Qc D tys r w1 (va_A wc sz)) 0 0 (va_A wc sz)
def cv_C (p : Program) (s : State) (m : MethodId) (args : Array Value) (c : Code) (cc : ByteArray) (nL : Nat) (own : String) (Ts : List Cond) (σ : Nat → Nat) (D : va_G) (tys : List (ClassId × FieldType)) (A : Nat → Prop) : Prop :=
  p.tables.exec = Jvm.exec ∧ c.code = cc ∧ c.maxLocals = nL ∧ s.vm.findClass own = some m.cls ∧ (∀ w ∈ Ts, w.before args s = true) ∧ va_K D vwCl tys s ∧ (∀ q, s.heap.size ≤ q → A q) ∧ cv_ST σ A s s.heap
def cv_V (p : Program) (l : Launch) (e : Env) (R : Room) (s : State) (m : MethodId) (args : Array Value) (below : List Frame) (meth : Method) (c : Code) (nL : Nat) (D : va_G) (A : Nat → Prop) (Q : State → Prop) (cells slots : Nat) (ws : va_W) (pc : Nat) (lv : List (Nat × Value)) (st : List Value) : Prop :=
  ∀ (H : Heap) (locs : List Loc) (ls : Array Slot), va_P D vwCl ws H → va_D A ws → va_S A s.heap H locs → lv_has ls nL lv → W p l e R s m args below meth c H locs cells slots Q (F0 m pc ls st)
/-- the method's end -/
def cv_Q (below : List Frame) (r : Option Value) (w1 : va_W) (D : va_G) (tys : List (ClassId × FieldType)) (A : Nat → Prop) (args : Array Value) (s : State) : State → Prop := MQ below (cv_Qc D tys r w1 A) args s 0 0 A
theorem cv_Pc.blind {σ : Nat → Nat} {D : va_G} {tys : List (ClassId × FieldType)} {As : List Value} {wc : va_W} {sz : Nat} : FrameBlind (cv_Pc σ D tys As wc sz) := by
  intro a U g mk h
  obtain ⟨h0, h1, h2, h3, h4, h5⟩ := h
  exact ⟨h0, h1, h2, va_K.moved (u := U) (U := U.calling g mk a) (Vm.Alike.refl U.vm) h3, h4, h5.same rfl⟩
theorem cv_fm {α β : Type} {f : α → Option β} : ∀ {is : List α} {w : List β}, is.map f = w.map some → is.filterMap f = w
  | [], [], _ => rfl
  | [], _ :: _, h => by cases h
  | _ :: _, [], h => by cases h
  | i :: is, x :: w, h => by
    simp only [List.map_cons, List.cons.injEq] at h
    rw [List.filterMap_cons, h.1]
    exact congrArg (x :: ·) (cv_fm h.2)
/-- functions of the walk: a value gets a name; a condition must hold; one behind the other -/
def cv_lt {α β : Type} (x : α) (k : α → Option β) : Option β := k x
def cv_gd {β : Type} (c : Prop) [Decidable c] (k : Option β) : Option β := if c then k else none
def cv_bd {α β : Type} (x : Option α) (k : α → Option β) : Option β := match x with
  | none => none
  | some a => k a
theorem cv_lt_s {α β : Type} {x : α} {k : α → Option β} {r : β} (h : cv_lt x k = some r) : ∃ y, y = x ∧ k y = some r := ⟨x, rfl, h⟩
theorem cv_gd_s {β : Type} {c : Prop} [Decidable c] {k : Option β} {r : β} (h : cv_gd c k = some r) : c ∧ k = some r := by
  unfold cv_gd at h
  by_cases hc : c
  · rw [if_pos hc] at h
    exact ⟨hc, h⟩
  · rw [if_neg hc] at h
    cases h
theorem cv_bd_s {α β : Type} {x : Option α} {k : α → Option β} {r : β} (h : cv_bd x k = some r) : ∃ a, x = some a ∧ k a = some r := by
  cases x with
  | none => cases h
  | some a => exact ⟨a, rfl, h⟩
theorem cv_if_t {β : Type} {c : Prop} [Decidable c] {a b : Option β} {r : β} (hc : c) (h : (if c then a else b) = some r) : a = some r := by
  rw [if_pos hc] at h
  exact h
theorem cv_if_f {β : Type} {c : Prop} [Decidable c] {a b : Option β} {r : β} (hc : ¬ c) (h : (if c then a else b) = some r) : b = some r := by
  rw [if_neg hc] at h
  exact h
theorem cv_bool {v : Int32} (h : v = 0 ∨ v = 1) : narrow .boolean (.int v) = .int v := by
  rcases h with rfl | rfl <;> decide
/-- what Math.max and Math.min answer -/
def cv_max (x y : Int32) : Int32 := if x < y then y else x
def cv_min (x y : Int32) : Int32 := if y < x then y else x
def cv_pk (ws : va_W) (is : List Nat) : va_W := is.filterMap (fun i => ws[i]?)
section CV
variable {p : Program} {l : Launch} {e : Env} {R : Room} {s : State} {m : MethodId} {args : Array Value} {below : List Frame} {meth : Method} {c : Code}
variable {cc : ByteArray} {nL : Nat} {own : String} {Ts : List Cond} {σ : Nat → Nat} {D : va_G} {tys : List (ClassId × FieldType)} {A : Nat → Prop} {Q : State → Prop} {cells slots : Nat} {ws : va_W} {pc : Nat} {lv : List (Nat × Value)} {st : List Value} {q : Nat}

theorem cv_iconst {n : Int} {v : Int32} (C : cv_C p s m args c cc nL own Ts σ D tys A) (d : decode cc pc = .ok (.iconst n, 1)) (hv : Int32.ofInt n = v) (hq : pc + 1 = q) (k : cv_V p l e R s m args below meth c nL D A Q cells slots ws q lv (.int v :: st)) : cv_V p l e R s m args below meth c nL D A Q cells slots ws pc lv st := by
  subst hq
  exact fun H locs ls hP hD hS hl => lv_iconst C.1 C.2.1 d hv (k H locs ls hP hD hS hl)
theorem cv_bipush {n : Int} {v : Int32} (C : cv_C p s m args c cc nL own Ts σ D tys A) (d : decode cc pc = .ok (.bipush n, 2)) (hv : (Int8.ofInt n).toInt32 = v) (hq : pc + 2 = q) (k : cv_V p l e R s m args below meth c nL D A Q cells slots ws q lv (.int v :: st)) : cv_V p l e R s m args below meth c nL D A Q cells slots ws pc lv st := by
  subst hq
  exact fun H locs ls hP hD hS hl => lv_bipush C.1 C.2.1 d hv (k H locs ls hP hD hS hl)
theorem cv_sipush {n : Int} {v : Int32} (C : cv_C p s m args c cc nL own Ts σ D tys A) (d : decode cc pc = .ok (.sipush n, 3)) (hv : (Int16.ofInt n).toInt32 = v) (hq : pc + 3 = q) (k : cv_V p l e R s m args below meth c nL D A Q cells slots ws q lv (.int v :: st)) : cv_V p l e R s m args below meth c nL D A Q cells slots ws pc lv st := by
  subst hq
  exact fun H locs ls hP hD hS hl => lv_sipush C.1 C.2.1 d hv (k H locs ls hP hD hS hl)
theorem cv_lconst {n : Fin 2} {v : Int64} (C : cv_C p s m args c cc nL own Ts σ D tys A) (d : decode cc pc = .ok (.lconst n, 1)) (hv : Int64.ofNat (n : Nat) = v) (hq : pc + 1 = q) (k : cv_V p l e R s m args below meth c nL D A Q cells slots ws q lv (.long v :: st)) : cv_V p l e R s m args below meth c nL D A Q cells slots ws pc lv st := by
  subst hq
  exact fun H locs ls hP hD hS hl => lv_lconst C.1 C.2.1 d hv (k H locs ls hP hD hS hl)
theorem cv_ldc {index : Nat} {v : Int32} (C : cv_C p s m args c cc nL own Ts σ D tys A) (d : decode cc pc = .ok (.ldc index, 2)) (hw : Jvm.Cond.constant own index v ∈ Ts) (hq : pc + 2 = q) (k : cv_V p l e R s m args below meth c nL D A Q cells slots ws q lv (.int v :: st)) : cv_V p l e R s m args below meth c nL D A Q cells slots ws pc lv st := by
  subst hq
  exact fun H locs ls hP hD hS hl => lv_ldc C.1 C.2.1 C.2.2.2.1 (C.2.2.2.2.1 _ hw) d (k H locs ls hP hD hS hl)
theorem cv_ldc_w {index : Nat} {v : Int32} (C : cv_C p s m args c cc nL own Ts σ D tys A) (d : decode cc pc = .ok (.ldc_w index, 3)) (hw : Jvm.Cond.constant own index v ∈ Ts) (hq : pc + 3 = q) (k : cv_V p l e R s m args below meth c nL D A Q cells slots ws q lv (.int v :: st)) : cv_V p l e R s m args below meth c nL D A Q cells slots ws pc lv st := by
  subst hq
  exact fun H locs ls hP hD hS hl => lv_ldcw C.1 C.2.1 C.2.2.2.1 (C.2.2.2.2.1 _ hw) d (k H locs ls hP hD hS hl)
theorem cv_ldc2 {index : Nat} {v : Int64} (C : cv_C p s m args c cc nL own Ts σ D tys A) (d : decode cc pc = .ok (.ldc2_w index, 3)) (hw : Jvm.Cond.constantLong own index v ∈ Ts) (hq : pc + 3 = q) (k : cv_V p l e R s m args below meth c nL D A Q cells slots ws q lv (.long v :: st)) : cv_V p l e R s m args below meth c nL D A Q cells slots ws pc lv st := by
  subst hq
  exact fun H locs ls hP hD hS hl => lv_ldc2 C.1 C.2.1 C.2.2.2.1 (C.2.2.2.2.1 _ hw) d (k H locs ls hP hD hS hl)
theorem cv_iload_n {k0 : Fin 4} {i : Nat} {x : Int32} (j : Nat) (C : cv_C p s m args c cc nL own Ts σ D tys A) (d : decode cc pc = .ok (.iload_n k0, 1)) (hi : (k0 : Nat) = i) (hj : lv[j]? = some (i, .int x)) (hq : pc + 1 = q) (k : cv_V p l e R s m args below meth c nL D A Q cells slots ws q lv (.int x :: st)) : cv_V p l e R s m args below meth c nL D A Q cells slots ws pc lv st := by
  subst hq
  exact fun H locs ls hP hD hS hl => lv_iload_n C.1 C.2.1 d hi (lv_at hl j hj) (k H locs ls hP hD hS hl)
theorem cv_iload {i : Nat} {x : Int32} (j : Nat) (C : cv_C p s m args c cc nL own Ts σ D tys A) (d : decode cc pc = .ok (.iload i, 2)) (hj : lv[j]? = some (i, .int x)) (hq : pc + 2 = q) (k : cv_V p l e R s m args below meth c nL D A Q cells slots ws q lv (.int x :: st)) : cv_V p l e R s m args below meth c nL D A Q cells slots ws pc lv st := by
  subst hq
  exact fun H locs ls hP hD hS hl => lv_iload C.1 C.2.1 d (lv_at hl j hj) (k H locs ls hP hD hS hl)
theorem cv_istore_n {k0 : Fin 4} {i : Nat} {x : Int32} {lv' : List (Nat × Value)} (C : cv_C p s m args c cc nL own Ts σ D tys A) (d : decode cc pc = .ok (.istore_n k0, 1)) (hi : (k0 : Nat) = i) (hn : i < nL) (hv : (i, Value.int x) :: lv.filter (fun q => !(q.1 == i) && !(q.1 + 1 == i && q.2.category == 2)) = lv') (hq : pc + 1 = q) (k : cv_V p l e R s m args below meth c nL D A Q cells slots ws q lv' st) : cv_V p l e R s m args below meth c nL D A Q cells slots ws pc lv (.int x :: st) := by
  subst hq
  exact fun H locs ls hP hD hS hl => lv_istore_n C.1 C.2.1 d hi hl hn hv (fun ls' hl' => k H locs ls' hP hD hS hl')
theorem cv_istore {i : Nat} {x : Int32} {lv' : List (Nat × Value)} (C : cv_C p s m args c cc nL own Ts σ D tys A) (d : decode cc pc = .ok (.istore i, 2)) (hn : i < nL) (hv : (i, Value.int x) :: lv.filter (fun q => !(q.1 == i) && !(q.1 + 1 == i && q.2.category == 2)) = lv') (hq : pc + 2 = q) (k : cv_V p l e R s m args below meth c nL D A Q cells slots ws q lv' st) : cv_V p l e R s m args below meth c nL D A Q cells slots ws pc lv (.int x :: st) := by
  subst hq
  exact fun H locs ls hP hD hS hl => lv_istore C.1 C.2.1 d hl hn hv (fun ls' hl' => k H locs ls' hP hD hS hl')
theorem cv_lload_n {k0 : Fin 4} {i : Nat} {x : Int64} (j : Nat) (C : cv_C p s m args c cc nL own Ts σ D tys A) (d : decode cc pc = .ok (.lload_n k0, 1)) (hi : (k0 : Nat) = i) (hj : lv[j]? = some (i, .long x)) (hq : pc + 1 = q) (k : cv_V p l e R s m args below meth c nL D A Q cells slots ws q lv (.long x :: st)) : cv_V p l e R s m args below meth c nL D A Q cells slots ws pc lv st := by
  subst hq
  exact fun H locs ls hP hD hS hl => lv_lload_n C.1 C.2.1 d hi (lv_at hl j hj) (k H locs ls hP hD hS hl)
theorem cv_lload {i : Nat} {x : Int64} (j : Nat) (C : cv_C p s m args c cc nL own Ts σ D tys A) (d : decode cc pc = .ok (.lload i, 2)) (hj : lv[j]? = some (i, .long x)) (hq : pc + 2 = q) (k : cv_V p l e R s m args below meth c nL D A Q cells slots ws q lv (.long x :: st)) : cv_V p l e R s m args below meth c nL D A Q cells slots ws pc lv st := by
  subst hq
  exact fun H locs ls hP hD hS hl => lv_lload C.1 C.2.1 d (lv_at hl j hj) (k H locs ls hP hD hS hl)
theorem cv_lstore_n {k0 : Fin 4} {i : Nat} {x : Int64} {lv' : List (Nat × Value)} (C : cv_C p s m args c cc nL own Ts σ D tys A) (d : decode cc pc = .ok (.lstore_n k0, 1)) (hi : (k0 : Nat) = i) (hn : i + 1 < nL) (hv : (i, Value.long x) :: lv.filter (fun q => !(q.1 == i) && (!(q.1 == i + 1) && !(q.1 + 1 == i && q.2.category == 2))) = lv') (hq : pc + 1 = q) (k : cv_V p l e R s m args below meth c nL D A Q cells slots ws q lv' st) : cv_V p l e R s m args below meth c nL D A Q cells slots ws pc lv (.long x :: st) := by
  subst hq
  exact fun H locs ls hP hD hS hl => lv_lstore_n C.1 C.2.1 d hi hl hn hv (fun ls' hl' => k H locs ls' hP hD hS hl')
theorem cv_lstore {i : Nat} {x : Int64} {lv' : List (Nat × Value)} (C : cv_C p s m args c cc nL own Ts σ D tys A) (d : decode cc pc = .ok (.lstore i, 2)) (hn : i + 1 < nL) (hv : (i, Value.long x) :: lv.filter (fun q => !(q.1 == i) && (!(q.1 == i + 1) && !(q.1 + 1 == i && q.2.category == 2))) = lv') (hq : pc + 2 = q) (k : cv_V p l e R s m args below meth c nL D A Q cells slots ws q lv' st) : cv_V p l e R s m args below meth c nL D A Q cells slots ws pc lv (.long x :: st) := by
  subst hq
  exact fun H locs ls hP hD hS hl => lv_lstore C.1 C.2.1 d hl hn hv (fun ls' hl' => k H locs ls' hP hD hS hl')
theorem cv_aload_n {k0 : Fin 4} {i : Nat} {x : Nat} (j : Nat) (C : cv_C p s m args c cc nL own Ts σ D tys A) (d : decode cc pc = .ok (.aload_n k0, 1)) (hi : (k0 : Nat) = i) (hj : lv[j]? = some (i, .ref x)) (hq : pc + 1 = q) (k : cv_V p l e R s m args below meth c nL D A Q cells slots ws q lv (.ref x :: st)) : cv_V p l e R s m args below meth c nL D A Q cells slots ws pc lv st := by
  subst hq
  exact fun H locs ls hP hD hS hl => lv_aload_n C.1 C.2.1 d hi (lv_at hl j hj) (k H locs ls hP hD hS hl)
theorem cv_aload {i : Nat} {x : Nat} (j : Nat) (C : cv_C p s m args c cc nL own Ts σ D tys A) (d : decode cc pc = .ok (.aload i, 2)) (hj : lv[j]? = some (i, .ref x)) (hq : pc + 2 = q) (k : cv_V p l e R s m args below meth c nL D A Q cells slots ws q lv (.ref x :: st)) : cv_V p l e R s m args below meth c nL D A Q cells slots ws pc lv st := by
  subst hq
  exact fun H locs ls hP hD hS hl => lv_aload C.1 C.2.1 d (lv_at hl j hj) (k H locs ls hP hD hS hl)
theorem cv_astore_n {k0 : Fin 4} {i : Nat} {x : Nat} {lv' : List (Nat × Value)} (C : cv_C p s m args c cc nL own Ts σ D tys A) (d : decode cc pc = .ok (.astore_n k0, 1)) (hi : (k0 : Nat) = i) (hn : i < nL) (hv : (i, Value.ref x) :: lv.filter (fun q => !(q.1 == i) && !(q.1 + 1 == i && q.2.category == 2)) = lv') (hq : pc + 1 = q) (k : cv_V p l e R s m args below meth c nL D A Q cells slots ws q lv' st) : cv_V p l e R s m args below meth c nL D A Q cells slots ws pc lv (.ref x :: st) := by
  subst hq
  exact fun H locs ls hP hD hS hl => lv_astore_n C.1 C.2.1 d hi hl hn hv (fun ls' hl' => k H locs ls' hP hD hS hl')
theorem cv_astore {i : Nat} {x : Nat} {lv' : List (Nat × Value)} (C : cv_C p s m args c cc nL own Ts σ D tys A) (d : decode cc pc = .ok (.astore i, 2)) (hn : i < nL) (hv : (i, Value.ref x) :: lv.filter (fun q => !(q.1 == i) && !(q.1 + 1 == i && q.2.category == 2)) = lv') (hq : pc + 2 = q) (k : cv_V p l e R s m args below meth c nL D A Q cells slots ws q lv' st) : cv_V p l e R s m args below meth c nL D A Q cells slots ws pc lv (.ref x :: st) := by
  subst hq
  exact fun H locs ls hP hD hS hl => lv_astore C.1 C.2.1 d hl hn hv (fun ls' hl' => k H locs ls' hP hD hS hl')
theorem cv_iinc {i : Nat} {n : Int} {x v : Int32} {lv' : List (Nat × Value)} (j : Nat) (C : cv_C p s m args c cc nL own Ts σ D tys A) (d : decode cc pc = .ok (.iinc i n, 3)) (hj : lv[j]? = some (i, .int x)) (hx : x + Int32.ofInt n = v) (hn : i < nL) (hv : (i, Value.int v) :: lv.filter (fun q => !(q.1 == i) && !(q.1 + 1 == i && q.2.category == 2)) = lv') (hq : pc + 3 = q) (k : cv_V p l e R s m args below meth c nL D A Q cells slots ws q lv' st) : cv_V p l e R s m args below meth c nL D A Q cells slots ws pc lv st := by
  subst hq
  exact fun H locs ls hP hD hS hl => lv_iinc C.1 C.2.1 d hl hj hx hn hv (fun ls' hl' => k H locs ls' hP hD hS hl')
theorem cv_iadd {x y : Int32} (C : cv_C p s m args c cc nL own Ts σ D tys A) (d : decode cc pc = .ok (.iadd, 1))  (hq : pc + 1 = q) (k : cv_V p l e R s m args below meth c nL D A Q cells slots ws q lv (.int (x + y) :: st)) : cv_V p l e R s m args below meth c nL D A Q cells slots ws pc lv (.int y :: .int x :: st) := by
  subst hq
  exact fun H locs ls hP hD hS hl => lv_iadd C.1 C.2.1 d  (k H locs ls hP hD hS hl)
theorem cv_isub {x y : Int32} (C : cv_C p s m args c cc nL own Ts σ D tys A) (d : decode cc pc = .ok (.isub, 1))  (hq : pc + 1 = q) (k : cv_V p l e R s m args below meth c nL D A Q cells slots ws q lv (.int (x - y) :: st)) : cv_V p l e R s m args below meth c nL D A Q cells slots ws pc lv (.int y :: .int x :: st) := by
  subst hq
  exact fun H locs ls hP hD hS hl => lv_isub C.1 C.2.1 d  (k H locs ls hP hD hS hl)
theorem cv_imul {x y : Int32} (C : cv_C p s m args c cc nL own Ts σ D tys A) (d : decode cc pc = .ok (.imul, 1))  (hq : pc + 1 = q) (k : cv_V p l e R s m args below meth c nL D A Q cells slots ws q lv (.int (x * y) :: st)) : cv_V p l e R s m args below meth c nL D A Q cells slots ws pc lv (.int y :: .int x :: st) := by
  subst hq
  exact fun H locs ls hP hD hS hl => lv_imul C.1 C.2.1 d  (k H locs ls hP hD hS hl)
theorem cv_iand {x y : Int32} (C : cv_C p s m args c cc nL own Ts σ D tys A) (d : decode cc pc = .ok (.iand, 1))  (hq : pc + 1 = q) (k : cv_V p l e R s m args below meth c nL D A Q cells slots ws q lv (.int (x &&& y) :: st)) : cv_V p l e R s m args below meth c nL D A Q cells slots ws pc lv (.int y :: .int x :: st) := by
  subst hq
  exact fun H locs ls hP hD hS hl => lv_iand C.1 C.2.1 d  (k H locs ls hP hD hS hl)
theorem cv_ior {x y : Int32} (C : cv_C p s m args c cc nL own Ts σ D tys A) (d : decode cc pc = .ok (.ior, 1))  (hq : pc + 1 = q) (k : cv_V p l e R s m args below meth c nL D A Q cells slots ws q lv (.int (x ||| y) :: st)) : cv_V p l e R s m args below meth c nL D A Q cells slots ws pc lv (.int y :: .int x :: st) := by
  subst hq
  exact fun H locs ls hP hD hS hl => lv_ior C.1 C.2.1 d  (k H locs ls hP hD hS hl)
theorem cv_ixor {x y : Int32} (C : cv_C p s m args c cc nL own Ts σ D tys A) (d : decode cc pc = .ok (.ixor, 1))  (hq : pc + 1 = q) (k : cv_V p l e R s m args below meth c nL D A Q cells slots ws q lv (.int (x ^^^ y) :: st)) : cv_V p l e R s m args below meth c nL D A Q cells slots ws pc lv (.int y :: .int x :: st) := by
  subst hq
  exact fun H locs ls hP hD hS hl => lv_ixor C.1 C.2.1 d  (k H locs ls hP hD hS hl)
theorem cv_ishl {x y : Int32} (C : cv_C p s m args c cc nL own Ts σ D tys A) (d : decode cc pc = .ok (.ishl, 1))  (hq : pc + 1 = q) (k : cv_V p l e R s m args below meth c nL D A Q cells slots ws q lv (.int (x <<< (y &&& 31)) :: st)) : cv_V p l e R s m args below meth c nL D A Q cells slots ws pc lv (.int y :: .int x :: st) := by
  subst hq
  exact fun H locs ls hP hD hS hl => lv_ishl C.1 C.2.1 d  (k H locs ls hP hD hS hl)
theorem cv_ishr {x y : Int32} (C : cv_C p s m args c cc nL own Ts σ D tys A) (d : decode cc pc = .ok (.ishr, 1))  (hq : pc + 1 = q) (k : cv_V p l e R s m args below meth c nL D A Q cells slots ws q lv (.int (x >>> (y &&& 31)) :: st)) : cv_V p l e R s m args below meth c nL D A Q cells slots ws pc lv (.int y :: .int x :: st) := by
  subst hq
  exact fun H locs ls hP hD hS hl => lv_ishr C.1 C.2.1 d  (k H locs ls hP hD hS hl)
theorem cv_idiv {x y : Int32} (C : cv_C p s m args c cc nL own Ts σ D tys A) (d : decode cc pc = .ok (.idiv, 1)) (hne : ¬ y = 0) (hq : pc + 1 = q) (k : cv_V p l e R s m args below meth c nL D A Q cells slots ws q lv (.int (x / y) :: st)) : cv_V p l e R s m args below meth c nL D A Q cells slots ws pc lv (.int y :: .int x :: st) := by
  subst hq
  exact fun H locs ls hP hD hS hl => lv_idiv C.1 C.2.1 d hne (k H locs ls hP hD hS hl)
theorem cv_irem {x y : Int32} (C : cv_C p s m args c cc nL own Ts σ D tys A) (d : decode cc pc = .ok (.irem, 1)) (hne : ¬ y = 0) (hq : pc + 1 = q) (k : cv_V p l e R s m args below meth c nL D A Q cells slots ws q lv (.int (x - x / y * y) :: st)) : cv_V p l e R s m args below meth c nL D A Q cells slots ws pc lv (.int y :: .int x :: st) := by
  subst hq
  exact fun H locs ls hP hD hS hl => lv_irem C.1 C.2.1 d hne (k H locs ls hP hD hS hl)
theorem cv_iushr {x y v : Int32} (C : cv_C p s m args c cc nL own Ts σ D tys A) (d : decode cc pc = .ok (.iushr, 1)) (hv : (x.toUInt32 >>> (y.toUInt32 &&& Int32.toUInt32 31)).toInt32 = v) (hq : pc + 1 = q) (k : cv_V p l e R s m args below meth c nL D A Q cells slots ws q lv (.int v :: st)) : cv_V p l e R s m args below meth c nL D A Q cells slots ws pc lv (.int y :: .int x :: st) := by
  subst hq
  exact fun H locs ls hP hD hS hl => lv_iushr C.1 C.2.1 d hv (k H locs ls hP hD hS hl)
theorem cv_ineg {x : Int32} (C : cv_C p s m args c cc nL own Ts σ D tys A) (d : decode cc pc = .ok (.ineg, 1))  (hq : pc + 1 = q) (k : cv_V p l e R s m args below meth c nL D A Q cells slots ws q lv (.int (-x) :: st)) : cv_V p l e R s m args below meth c nL D A Q cells slots ws pc lv (.int x :: st) := by
  subst hq
  exact fun H locs ls hP hD hS hl => lv_ineg C.1 C.2.1 d  (k H locs ls hP hD hS hl)
theorem cv_ladd {x y : Int64} (C : cv_C p s m args c cc nL own Ts σ D tys A) (d : decode cc pc = .ok (.ladd, 1))  (hq : pc + 1 = q) (k : cv_V p l e R s m args below meth c nL D A Q cells slots ws q lv (.long (x + y) :: st)) : cv_V p l e R s m args below meth c nL D A Q cells slots ws pc lv (.long y :: .long x :: st) := by
  subst hq
  exact fun H locs ls hP hD hS hl => lv_ladd C.1 C.2.1 d  (k H locs ls hP hD hS hl)
theorem cv_lsub {x y : Int64} (C : cv_C p s m args c cc nL own Ts σ D tys A) (d : decode cc pc = .ok (.lsub, 1))  (hq : pc + 1 = q) (k : cv_V p l e R s m args below meth c nL D A Q cells slots ws q lv (.long (x - y) :: st)) : cv_V p l e R s m args below meth c nL D A Q cells slots ws pc lv (.long y :: .long x :: st) := by
  subst hq
  exact fun H locs ls hP hD hS hl => lv_lsub C.1 C.2.1 d  (k H locs ls hP hD hS hl)
theorem cv_lmul {x y : Int64} (C : cv_C p s m args c cc nL own Ts σ D tys A) (d : decode cc pc = .ok (.lmul, 1))  (hq : pc + 1 = q) (k : cv_V p l e R s m args below meth c nL D A Q cells slots ws q lv (.long (x * y) :: st)) : cv_V p l e R s m args below meth c nL D A Q cells slots ws pc lv (.long y :: .long x :: st) := by
  subst hq
  exact fun H locs ls hP hD hS hl => lv_lmul C.1 C.2.1 d  (k H locs ls hP hD hS hl)
theorem cv_land {x y : Int64} (C : cv_C p s m args c cc nL own Ts σ D tys A) (d : decode cc pc = .ok (.land, 1))  (hq : pc + 1 = q) (k : cv_V p l e R s m args below meth c nL D A Q cells slots ws q lv (.long (x &&& y) :: st)) : cv_V p l e R s m args below meth c nL D A Q cells slots ws pc lv (.long y :: .long x :: st) := by
  subst hq
  exact fun H locs ls hP hD hS hl => lv_land C.1 C.2.1 d  (k H locs ls hP hD hS hl)
theorem cv_ldiv {x y : Int64} (C : cv_C p s m args c cc nL own Ts σ D tys A) (d : decode cc pc = .ok (.ldiv, 1)) (hne : ¬ y = 0) (hq : pc + 1 = q) (k : cv_V p l e R s m args below meth c nL D A Q cells slots ws q lv (.long (x / y) :: st)) : cv_V p l e R s m args below meth c nL D A Q cells slots ws pc lv (.long y :: .long x :: st) := by
  subst hq
  exact fun H locs ls hP hD hS hl => lv_ldiv C.1 C.2.1 d hne (k H locs ls hP hD hS hl)
theorem cv_lrem {x y : Int64} (C : cv_C p s m args c cc nL own Ts σ D tys A) (d : decode cc pc = .ok (.lrem, 1)) (hne : ¬ y = 0) (hq : pc + 1 = q) (k : cv_V p l e R s m args below meth c nL D A Q cells slots ws q lv (.long (x - x / y * y) :: st)) : cv_V p l e R s m args below meth c nL D A Q cells slots ws pc lv (.long y :: .long x :: st) := by
  subst hq
  exact fun H locs ls hP hD hS hl => lv_lrem C.1 C.2.1 d hne (k H locs ls hP hD hS hl)
theorem cv_lcmp {x y : Int64} (C : cv_C p s m args c cc nL own Ts σ D tys A) (d : decode cc pc = .ok (.lcmp, 1))  (hq : pc + 1 = q) (k : cv_V p l e R s m args below meth c nL D A Q cells slots ws q lv (.int (lg_cmp x y) :: st)) : cv_V p l e R s m args below meth c nL D A Q cells slots ws pc lv (.long y :: .long x :: st) := by
  subst hq
  exact fun H locs ls hP hD hS hl => W.lcmp C.1 C.2.1 d (k H locs ls hP hD hS hl)
theorem cv_i2l {x : Int32} (C : cv_C p s m args c cc nL own Ts σ D tys A) (d : decode cc pc = .ok (.i2l, 1))  (hq : pc + 1 = q) (k : cv_V p l e R s m args below meth c nL D A Q cells slots ws q lv (.long x.toInt64 :: st)) : cv_V p l e R s m args below meth c nL D A Q cells slots ws pc lv (.int x :: st) := by
  subst hq
  exact fun H locs ls hP hD hS hl => lv_i2l C.1 C.2.1 d rfl (k H locs ls hP hD hS hl)
theorem cv_l2i {x : Int64} (C : cv_C p s m args c cc nL own Ts σ D tys A) (d : decode cc pc = .ok (.l2i, 1))  (hq : pc + 1 = q) (k : cv_V p l e R s m args below meth c nL D A Q cells slots ws q lv (.int x.toInt32 :: st)) : cv_V p l e R s m args below meth c nL D A Q cells slots ws pc lv (.long x :: st) := by
  subst hq
  exact fun H locs ls hP hD hS hl => lv_l2i C.1 C.2.1 d rfl (k H locs ls hP hD hS hl)
theorem cv_i2c {x : Int32} (C : cv_C p s m args c cc nL own Ts σ D tys A) (d : decode cc pc = .ok (.i2c, 1))  (hq : pc + 1 = q) (k : cv_V p l e R s m args below meth c nL D A Q cells slots ws q lv (.int (x.toUInt32 % 65536).toInt32 :: st)) : cv_V p l e R s m args below meth c nL D A Q cells slots ws pc lv (.int x :: st) := by
  subst hq
  exact fun H locs ls hP hD hS hl => lv_i2c C.1 C.2.1 d rfl (k H locs ls hP hD hS hl)
theorem cv_i2b {x : Int32} (C : cv_C p s m args c cc nL own Ts σ D tys A) (d : decode cc pc = .ok (.i2b, 1))  (hq : pc + 1 = q) (k : cv_V p l e R s m args below meth c nL D A Q cells slots ws q lv (.int x.toInt8.toInt32 :: st)) : cv_V p l e R s m args below meth c nL D A Q cells slots ws pc lv (.int x :: st) := by
  subst hq
  exact fun H locs ls hP hD hS hl => lv_i2b C.1 C.2.1 d rfl (k H locs ls hP hD hS hl)
theorem cv_dup {va : Value} (C : cv_C p s m args c cc nL own Ts σ D tys A) (d : decode cc pc = .ok (.dup, 1)) (h1 : va.category = 1) (hq : pc + 1 = q) (k : cv_V p l e R s m args below meth c nL D A Q cells slots ws q lv (va :: va :: st)) : cv_V p l e R s m args below meth c nL D A Q cells slots ws pc lv (va :: st) := by
  subst hq
  exact fun H locs ls hP hD hS hl => lv_dup C.1 C.2.1 d h1 (k H locs ls hP hD hS hl)
theorem cv_pop {va : Value} (C : cv_C p s m args c cc nL own Ts σ D tys A) (d : decode cc pc = .ok (.pop, 1)) (h1 : va.category = 1) (hq : pc + 1 = q) (k : cv_V p l e R s m args below meth c nL D A Q cells slots ws q lv st) : cv_V p l e R s m args below meth c nL D A Q cells slots ws pc lv (va :: st) := by
  subst hq
  exact fun H locs ls hP hD hS hl => lv_pop C.1 C.2.1 d h1 (k H locs ls hP hD hS hl)
theorem cv_dup_x1 {va vb : Value} (C : cv_C p s m args c cc nL own Ts σ D tys A) (d : decode cc pc = .ok (.dup_x1, 1)) (h1 : va.category = 1) (h2 : vb.category = 1) (hq : pc + 1 = q) (k : cv_V p l e R s m args below meth c nL D A Q cells slots ws q lv (va :: vb :: va :: st)) : cv_V p l e R s m args below meth c nL D A Q cells slots ws pc lv (va :: vb :: st) := by
  subst hq
  exact fun H locs ls hP hD hS hl => lv_dup_x1 C.1 C.2.1 d h1 h2 (k H locs ls hP hD hS hl)
theorem cv_dup2 {va vb : Value} (C : cv_C p s m args c cc nL own Ts σ D tys A) (d : decode cc pc = .ok (.dup2, 1)) (h1 : va.category = 1) (h2 : vb.category = 1) (hq : pc + 1 = q) (k : cv_V p l e R s m args below meth c nL D A Q cells slots ws q lv (va :: vb :: va :: vb :: st)) : cv_V p l e R s m args below meth c nL D A Q cells slots ws pc lv (va :: vb :: st) := by
  subst hq
  exact fun H locs ls hP hD hS hl => lv_dup2_11 C.1 C.2.1 d h1 h2 (k H locs ls hP hD hS hl)
theorem cv_null  (C : cv_C p s m args c cc nL own Ts σ D tys A) (d : decode cc pc = .ok (.aconst_null, 1))  (hq : pc + 1 = q) (k : cv_V p l e R s m args below meth c nL D A Q cells slots ws q lv (.null :: st)) : cv_V p l e R s m args below meth c nL D A Q cells slots ws pc lv st := by
  subst hq
  exact fun H locs ls hP hD hS hl => lv_null C.1 C.2.1 d  (k H locs ls hP hD hS hl)
theorem cv_if_eq {x : Int32} {off : Int} {tgt : Nat} (C : cv_C p s m args c cc nL own Ts σ D tys A) (d : decode cc pc = .ok (.ifCond .eq off, 3)) (ht : (pc : Int) + off = (tgt : Int)) (hq : pc + 3 = q) (kt : x = 0 → cv_V p l e R s m args below meth c nL D A Q cells slots ws tgt lv st) (kf : ¬ x = 0 → cv_V p l e R s m args below meth c nL D A Q cells slots ws q lv st) : cv_V p l e R s m args below meth c nL D A Q cells slots ws pc lv (.int x :: st) := by
  subst hq
  exact fun H locs ls hP hD hS hl => lv_if_eq C.1 C.2.1 d ht (fun h => kt h H locs ls hP hD hS hl) (fun h => kf h H locs ls hP hD hS hl)
theorem cv_icmp_eq {x y : Int32} {off : Int} {tgt : Nat} (C : cv_C p s m args c cc nL own Ts σ D tys A) (d : decode cc pc = .ok (.if_icmp .eq off, 3)) (ht : (pc : Int) + off = (tgt : Int)) (hq : pc + 3 = q) (kt : x = y → cv_V p l e R s m args below meth c nL D A Q cells slots ws tgt lv st) (kf : ¬ x = y → cv_V p l e R s m args below meth c nL D A Q cells slots ws q lv st) : cv_V p l e R s m args below meth c nL D A Q cells slots ws pc lv (.int y :: .int x :: st) := by
  subst hq
  exact fun H locs ls hP hD hS hl => lv_icmp_eq C.1 C.2.1 d ht (fun h => kt h H locs ls hP hD hS hl) (fun h => kf h H locs ls hP hD hS hl)
theorem cv_if_ne {x : Int32} {off : Int} {tgt : Nat} (C : cv_C p s m args c cc nL own Ts σ D tys A) (d : decode cc pc = .ok (.ifCond .ne off, 3)) (ht : (pc : Int) + off = (tgt : Int)) (hq : pc + 3 = q) (kt : ¬ x = 0 → cv_V p l e R s m args below meth c nL D A Q cells slots ws tgt lv st) (kf : x = 0 → cv_V p l e R s m args below meth c nL D A Q cells slots ws q lv st) : cv_V p l e R s m args below meth c nL D A Q cells slots ws pc lv (.int x :: st) := by
  subst hq
  exact fun H locs ls hP hD hS hl => lv_if_ne C.1 C.2.1 d ht (fun h => kt h H locs ls hP hD hS hl) (fun h => kf h H locs ls hP hD hS hl)
theorem cv_icmp_ne {x y : Int32} {off : Int} {tgt : Nat} (C : cv_C p s m args c cc nL own Ts σ D tys A) (d : decode cc pc = .ok (.if_icmp .ne off, 3)) (ht : (pc : Int) + off = (tgt : Int)) (hq : pc + 3 = q) (kt : ¬ x = y → cv_V p l e R s m args below meth c nL D A Q cells slots ws tgt lv st) (kf : x = y → cv_V p l e R s m args below meth c nL D A Q cells slots ws q lv st) : cv_V p l e R s m args below meth c nL D A Q cells slots ws pc lv (.int y :: .int x :: st) := by
  subst hq
  exact fun H locs ls hP hD hS hl => lv_icmp_ne C.1 C.2.1 d ht (fun h => kt h H locs ls hP hD hS hl) (fun h => kf h H locs ls hP hD hS hl)
theorem cv_if_lt {x : Int32} {off : Int} {tgt : Nat} (C : cv_C p s m args c cc nL own Ts σ D tys A) (d : decode cc pc = .ok (.ifCond .lt off, 3)) (ht : (pc : Int) + off = (tgt : Int)) (hq : pc + 3 = q) (kt : x < 0 → cv_V p l e R s m args below meth c nL D A Q cells slots ws tgt lv st) (kf : ¬ x < 0 → cv_V p l e R s m args below meth c nL D A Q cells slots ws q lv st) : cv_V p l e R s m args below meth c nL D A Q cells slots ws pc lv (.int x :: st) := by
  subst hq
  exact fun H locs ls hP hD hS hl => lv_if_lt C.1 C.2.1 d ht (fun h => kt h H locs ls hP hD hS hl) (fun h => kf h H locs ls hP hD hS hl)
theorem cv_icmp_lt {x y : Int32} {off : Int} {tgt : Nat} (C : cv_C p s m args c cc nL own Ts σ D tys A) (d : decode cc pc = .ok (.if_icmp .lt off, 3)) (ht : (pc : Int) + off = (tgt : Int)) (hq : pc + 3 = q) (kt : x < y → cv_V p l e R s m args below meth c nL D A Q cells slots ws tgt lv st) (kf : ¬ x < y → cv_V p l e R s m args below meth c nL D A Q cells slots ws q lv st) : cv_V p l e R s m args below meth c nL D A Q cells slots ws pc lv (.int y :: .int x :: st) := by
  subst hq
  exact fun H locs ls hP hD hS hl => lv_icmp_lt C.1 C.2.1 d ht (fun h => kt h H locs ls hP hD hS hl) (fun h => kf h H locs ls hP hD hS hl)
theorem cv_if_ge {x : Int32} {off : Int} {tgt : Nat} (C : cv_C p s m args c cc nL own Ts σ D tys A) (d : decode cc pc = .ok (.ifCond .ge off, 3)) (ht : (pc : Int) + off = (tgt : Int)) (hq : pc + 3 = q) (kt : 0 ≤ x → cv_V p l e R s m args below meth c nL D A Q cells slots ws tgt lv st) (kf : ¬ 0 ≤ x → cv_V p l e R s m args below meth c nL D A Q cells slots ws q lv st) : cv_V p l e R s m args below meth c nL D A Q cells slots ws pc lv (.int x :: st) := by
  subst hq
  exact fun H locs ls hP hD hS hl => lv_if_ge C.1 C.2.1 d ht (fun h => kt h H locs ls hP hD hS hl) (fun h => kf h H locs ls hP hD hS hl)
theorem cv_icmp_ge {x y : Int32} {off : Int} {tgt : Nat} (C : cv_C p s m args c cc nL own Ts σ D tys A) (d : decode cc pc = .ok (.if_icmp .ge off, 3)) (ht : (pc : Int) + off = (tgt : Int)) (hq : pc + 3 = q) (kt : y ≤ x → cv_V p l e R s m args below meth c nL D A Q cells slots ws tgt lv st) (kf : ¬ y ≤ x → cv_V p l e R s m args below meth c nL D A Q cells slots ws q lv st) : cv_V p l e R s m args below meth c nL D A Q cells slots ws pc lv (.int y :: .int x :: st) := by
  subst hq
  exact fun H locs ls hP hD hS hl => lv_icmp_ge C.1 C.2.1 d ht (fun h => kt h H locs ls hP hD hS hl) (fun h => kf h H locs ls hP hD hS hl)
theorem cv_if_gt {x : Int32} {off : Int} {tgt : Nat} (C : cv_C p s m args c cc nL own Ts σ D tys A) (d : decode cc pc = .ok (.ifCond .gt off, 3)) (ht : (pc : Int) + off = (tgt : Int)) (hq : pc + 3 = q) (kt : 0 < x → cv_V p l e R s m args below meth c nL D A Q cells slots ws tgt lv st) (kf : ¬ 0 < x → cv_V p l e R s m args below meth c nL D A Q cells slots ws q lv st) : cv_V p l e R s m args below meth c nL D A Q cells slots ws pc lv (.int x :: st) := by
  subst hq
  exact fun H locs ls hP hD hS hl => lv_if_gt C.1 C.2.1 d ht (fun h => kt h H locs ls hP hD hS hl) (fun h => kf h H locs ls hP hD hS hl)
theorem cv_icmp_gt {x y : Int32} {off : Int} {tgt : Nat} (C : cv_C p s m args c cc nL own Ts σ D tys A) (d : decode cc pc = .ok (.if_icmp .gt off, 3)) (ht : (pc : Int) + off = (tgt : Int)) (hq : pc + 3 = q) (kt : y < x → cv_V p l e R s m args below meth c nL D A Q cells slots ws tgt lv st) (kf : ¬ y < x → cv_V p l e R s m args below meth c nL D A Q cells slots ws q lv st) : cv_V p l e R s m args below meth c nL D A Q cells slots ws pc lv (.int y :: .int x :: st) := by
  subst hq
  exact fun H locs ls hP hD hS hl => lv_icmp_gt C.1 C.2.1 d ht (fun h => kt h H locs ls hP hD hS hl) (fun h => kf h H locs ls hP hD hS hl)
theorem cv_if_le {x : Int32} {off : Int} {tgt : Nat} (C : cv_C p s m args c cc nL own Ts σ D tys A) (d : decode cc pc = .ok (.ifCond .le off, 3)) (ht : (pc : Int) + off = (tgt : Int)) (hq : pc + 3 = q) (kt : x ≤ 0 → cv_V p l e R s m args below meth c nL D A Q cells slots ws tgt lv st) (kf : ¬ x ≤ 0 → cv_V p l e R s m args below meth c nL D A Q cells slots ws q lv st) : cv_V p l e R s m args below meth c nL D A Q cells slots ws pc lv (.int x :: st) := by
  subst hq
  exact fun H locs ls hP hD hS hl => lv_if_le C.1 C.2.1 d ht (fun h => kt h H locs ls hP hD hS hl) (fun h => kf h H locs ls hP hD hS hl)
theorem cv_icmp_le {x y : Int32} {off : Int} {tgt : Nat} (C : cv_C p s m args c cc nL own Ts σ D tys A) (d : decode cc pc = .ok (.if_icmp .le off, 3)) (ht : (pc : Int) + off = (tgt : Int)) (hq : pc + 3 = q) (kt : x ≤ y → cv_V p l e R s m args below meth c nL D A Q cells slots ws tgt lv st) (kf : ¬ x ≤ y → cv_V p l e R s m args below meth c nL D A Q cells slots ws q lv st) : cv_V p l e R s m args below meth c nL D A Q cells slots ws pc lv (.int y :: .int x :: st) := by
  subst hq
  exact fun H locs ls hP hD hS hl => lv_icmp_le C.1 C.2.1 d ht (fun h => kt h H locs ls hP hD hS hl) (fun h => kf h H locs ls hP hD hS hl)
theorem cv_goto {off : Int} {tgt : Nat} (C : cv_C p s m args c cc nL own Ts σ D tys A) (d : decode cc pc = .ok (.goto off, 3)) (ht : (pc : Int) + off = (tgt : Int)) (k : cv_V p l e R s m args below meth c nL D A Q cells slots ws tgt lv st) : cv_V p l e R s m args below meth c nL D A Q cells slots ws pc lv st := fun H locs ls hP hD hS hl => lv_goto C.1 C.2.1 d ht (k H locs ls hP hD hS hl)
theorem cv_tin {dflt lo hi : Int} {offs : Array Int} {len : Nat} {x : Int32} {off : Int} {tgt : Nat} (kx : Int32) (C : cv_C p s m args c cc nL own Ts σ D tys A) (d : decode cc pc = .ok (.tableswitch dflt lo hi offs, len)) (hx : x = kx) (h1 : ¬ kx.toInt < lo) (h2 : ¬ hi < kx.toInt) (ho : offs[(kx.toInt - lo).toNat]? = some off) (ht : (pc : Int) + off = (tgt : Int)) (k : cv_V p l e R s m args below meth c nL D A Q cells slots ws tgt lv st) : cv_V p l e R s m args below meth c nL D A Q cells slots ws pc lv (.int x :: st) := by
  subst hx
  exact fun H locs ls hP hD hS hl => lv_tableIn C.1 C.2.1 d h1 h2 ho ht (k H locs ls hP hD hS hl)
theorem cv_tout {dflt lo hi : Int} {offs : Array Int} {len : Nat} {x : Int32} {tgt : Nat} (C : cv_C p s m args c cc nL own Ts σ D tys A) (d : decode cc pc = .ok (.tableswitch dflt lo hi offs, len)) (h : x.toInt < lo ∨ hi < x.toInt) (ht : (pc : Int) + dflt = (tgt : Int)) (k : cv_V p l e R s m args below meth c nL D A Q cells slots ws tgt lv st) : cv_V p l e R s m args below meth c nL D A Q cells slots ws pc lv (.int x :: st) := fun H locs ls hP hD hS hl => lv_tableOut C.1 C.2.1 d h ht (k H locs ls hP hD hS hl)
theorem cv_lsw {dflt : Int} {ps : Array (Int × Int)} {len : Nat} {x : Int32} {off : Int} {tgt : Nat} (C : cv_C p s m args c cc nL own Ts σ D tys A) (d : decode cc pc = .ok (.lookupswitch dflt ps, len)) (hp : (ps.toList.zip (ps.toList.drop 1)).all (fun (a, next) => a.1 < next.1) = true) (ho : Op.lookupswitch.offset ps.toList dflt x.toInt = off) (ht : (pc : Int) + off = (tgt : Int)) (k : cv_V p l e R s m args below meth c nL D A Q cells slots ws tgt lv st) : cv_V p l e R s m args below meth c nL D A Q cells slots ws pc lv (.int x :: st) := fun H locs ls hP hD hS hl => lv_lookup C.1 C.2.1 d hp ho ht (k H locs ls hP hD hS hl)
theorem cv_topi {x y : Int32} (h : y = x) (k : cv_V p l e R s m args below meth c nL D A Q cells slots ws pc lv (.int y :: st)) : cv_V p l e R s m args below meth c nL D A Q cells slots ws pc lv (.int x :: st) := h ▸ k
theorem cv_topl {x y : Int64} (h : y = x) (k : cv_V p l e R s m args below meth c nL D A Q cells slots ws pc lv (.long y :: st)) : cv_V p l e R s m args below meth c nL D A Q cells slots ws pc lv (.long x :: st) := h ▸ k
theorem cv_sub {lv' : List (Nat × Value)} (ks : List Nat) (h : lv_pick lv ks = lv') (k : cv_V p l e R s m args below meth c nL D A Q cells slots ws pc lv' st) : cv_V p l e R s m args below meth c nL D A Q cells slots ws pc lv st := fun H locs ls hP hD hS hl => k H locs ls hP hD hS (lv_sub hl ks h)
theorem cv_ws {ws' : va_W} (h : ws' = ws) (k : cv_V p l e R s m args below meth c nL D A Q cells slots ws' pc lv st) : cv_V p l e R s m args below meth c nL D A Q cells slots ws pc lv st := h ▸ k
theorem cv_at {pc' : Nat} {st' : List Value} (h : pc' = pc) (h2 : st' = st) (k : cv_V p l e R s m args below meth c nL D A Q cells slots ws pc' lv st') : cv_V p l e R s m args below meth c nL D A Q cells slots ws pc lv st := h ▸ h2 ▸ k
theorem cv_get {ref C0 : String} {T : u_T} {N ci index a : Nat} {fs : List Value} {v : Value} (C : cv_C p s m args c cc nL own Ts σ D tys A) (hin : ∀ w ∈ u_ws C0 T N, w ∈ Ts) (q0 : Nat) (he : ws[q0]? = some (a, .inr (ci, fs))) (hc : vwCl[ci]? = some (C0, T, N)) (k0 : Nat) (hk : k0 < N) (hlink : Cond.fieldLink own index ref (T k0).2.1 (T k0).2.2.1 ∈ Ts) (hr : (T k0).1 = ref) (hv : fs[k0]? = some v) (d : decode cc pc = .ok (.getfield index, 3)) (hq : pc + 3 = q) (k : cv_V p l e R s m args below meth c nL D A Q cells slots ws q lv (v :: st)) : cv_V p l e R s m args below meth c nL D A Q cells slots ws pc lv (.ref a :: st) := by
  subst hq; subst hr
  exact fun H locs ls hP hD hS hl => va_get C.1 C.2.1 C.2.2.2.2.1 hin C.2.2.2.1 C.2.2.2.2.2.1 hP q0 he hc k0 hk (C.2.2.2.2.1 _ hlink) (fun _ h => h) hv d (k H locs ls hP hD hS hl)
theorem cv_put {ref C0 : String} {T : u_T} {N ci index a : Nat} {fs : List Value} {v : Value} {ty : FieldType} {ws' : va_W} (C : cv_C p s m args c cc nL own Ts σ D tys A) (hin : ∀ w ∈ u_ws C0 T N, w ∈ Ts) (ty0 : Nat → FieldType) (hty : ∀ k, k < N → parseFieldDescriptor (T k).2.2.1 = some (ty0 k)) (hnm : ∀ a, a < N → ∀ b, b < N → a ≠ b → (T a).2.1 ≠ (T b).2.1) (q0 : Nat) (he : ws[q0]? = some (a, .inr (ci, fs))) (hc : vwCl[ci]? = some (C0, T, N)) (k0 : Nat) (hk : k0 < N) (hlink : Cond.fieldLink own index ref (T k0).2.1 (T k0).2.2.1 ∈ Ts) (hr : (T k0).1 = ref) (hfin : (T k0).2.2.2 = false) (hd : parseFieldDescriptor (T k0).2.2.1 = some ty) (hn : narrow ty v = v) (hfit : fits ty v = true) (hl0 : k0 < fs.length) (d : decode cc pc = .ok (.putfield index, 3)) (hq : pc + 3 = q) (hws : ws.set q0 (a, .inr (ci, fs.set k0 v)) = ws') (k : cv_V p l e R s m args below meth c nL D A Q cells slots ws' q lv st) : cv_V p l e R s m args below meth c nL D A Q cells slots ws pc lv (v :: .ref a :: st) := by
  subst hq; subst hr; subst hws
  exact fun H locs ls hP hD hS hl => va_put C.1 C.2.1 C.2.2.2.2.1 hin ty0 hty hnm C.2.2.2.1 C.2.2.2.2.2.1 hP hD hS q0 he hc k0 hk (C.2.2.2.2.1 _ hlink) (fun _ h => h) hfin hd hn hfit hl0 d (fun H1 locs1 hP1 hD1 hS1 => k H1 locs1 ls hP1 hD1 hS1 hl)
theorem cv_iald {a n : Nat} {cA : ClassId} {f : Nat → Int32} {i : Int32} (C : cv_C p s m args c cc nL own Ts σ D tys A) (q0 t0 : Nat) (ha : ws[q0]? = some (a, .inl (cA, n, .inl f))) (ht : tys[t0]? = some (cA, .int)) (hi : vp_in i n) (d : decode cc pc = .ok (.iaload, 1)) (hq : pc + 1 = q) (k : cv_V p l e R s m args below meth c nL D A Q cells slots ws q lv (.int (f i.toNatClampNeg) :: st)) : cv_V p l e R s m args below meth c nL D A Q cells slots ws pc lv (.int i :: .ref a :: st) := by
  subst hq
  exact fun H locs ls hP hD hS hl => va_iald C.1 C.2.1 C.2.2.2.2.2.1 hP q0 t0 ha ht hi d (k H locs ls hP hD hS hl)
theorem cv_iast {a n : Nat} {cA : ClassId} {f : Nat → Int32} {i x : Int32} {ws' : va_W} (C : cv_C p s m args c cc nL own Ts σ D tys A) (q0 t0 : Nat) (ha : ws[q0]? = some (a, .inl (cA, n, .inl f))) (ht : tys[t0]? = some (cA, .int)) (hi : vp_in i n) (d : decode cc pc = .ok (.iastore, 1)) (hq : pc + 1 = q) (hws : ws.set q0 (a, .inl (cA, n, .inl (upd f i.toNatClampNeg x))) = ws') (k : cv_V p l e R s m args below meth c nL D A Q cells slots ws' q lv st) : cv_V p l e R s m args below meth c nL D A Q cells slots ws pc lv (.int x :: .int i :: .ref a :: st) := by
  subst hq; subst hws
  exact fun H locs ls hP hD hS hl => va_iast C.1 C.2.1 C.2.2.2.2.2.1 hP hD hS q0 t0 ha ht hi d (fun H1 locs1 hP1 hD1 hS1 => k H1 locs1 ls hP1 hD1 hS1 hl)
theorem cv_alen {a n : Nat} {cA : ClassId} {f : Nat → Int32} {v : Int32} (C : cv_C p s m args c cc nL own Ts σ D tys A) (q0 t0 : Nat) (ha : ws[q0]? = some (a, .inl (cA, n, .inl f))) (ht : tys[t0]? = some (cA, .int)) (hv : Int32.ofNat n = v) (d : decode cc pc = .ok (.arraylength, 1)) (hq : pc + 1 = q) (k : cv_V p l e R s m args below meth c nL D A Q cells slots ws q lv (.int v :: st)) : cv_V p l e R s m args below meth c nL D A Q cells slots ws pc lv (.ref a :: st) := by
  subst hq; subst hv
  exact fun H locs ls hP hD hS hl => va_alen C.1 C.2.1 C.2.2.2.2.2.1 hP q0 t0 ha ht rfl d (k H locs ls hP hD hS hl)
theorem cv_copyi {a a0 : Nat} {cA : ClassId} {n0 n1 index : Nat} {f g : Nat → Int32} {ws' : va_W} {sp dp n : Int32} (C : cv_C p s m args c cc nL own Ts σ D tys A) (hlink : Cond.methodLink own index arraycopyName ∈ Ts) (hnat : Cond.native arraycopyName ∈ Ts) (hstat : Cond.static arraycopyName ∈ Ts) (hini : Cond.initialized "java/lang/System" ∈ Ts) (q0 q1 t0 : Nat) (ha0 : ws[q0]? = some (a0, .inl (cA, n0, .inl f))) (ha1 : ws[q1]? = some (a, .inl (cA, n1, .inl g))) (ht : tys[t0]? = some (cA, .int)) (h1 : ¬ sp < 0) (h2 : ¬ dp < 0) (h3 : ¬ n < 0) (h4 : sp.toNatClampNeg + n.toNatClampNeg ≤ n0) (h5 : dp.toNatClampNeg + n.toNatClampNeg ≤ n1) (hfr : 1 ≤ R.frames) (hlo : (st.map fun v => v.category).sum + (nativeFrameWords "java/lang/System" "arraycopy" 5 + 11) ≤ R.locals) (d : decode cc pc = .ok (.invokestatic index, 3)) (hq : pc + 3 = q) (hws : ws.set q1 (a, .inl (cA, n1, .inl (va_cpy f g sp.toNatClampNeg dp.toNatClampNeg n.toNatClampNeg))) = ws') (k : cv_V p l e R s m args below meth c nL D A Q cells slots ws' q lv st) : cv_V p l e R s m args below meth c nL D A Q cells slots ws pc lv (.int n :: .int dp :: .ref a :: .int sp :: .ref a0 :: st) := by
  subst hq; subst hws
  exact fun H locs ls hP hD hS hl => va_copyi C.1 C.2.1 (C.2.2.1.trans hl.1.symm) C.2.2.2.1 (C.2.2.2.2.1 _ hlink) (C.2.2.2.2.1 _ hnat) (C.2.2.2.2.1 _ hstat) (C.2.2.2.2.1 _ hini) C.2.2.2.2.2.1 hP hD hS q0 q1 t0 t0 ha0 ha1 ht ht rfl h1 h2 h3 h4 h5 (fun _ _ => rfl) hfr hlo d (fun H1 locs1 hP1 hD1 hS1 => k H1 locs1 ls hP1 hD1 hS1 hl)
theorem cv_gets {index : Nat} (C : cv_C p s m args c cc nL own Ts σ D tys A) (hlink : Cond.fieldLink own index "CreditShelf" "ABLE" "[I" ∈ Ts) (d : decode cc pc = .ok (.getstatic index, 3)) (hq : pc + 3 = q) (k : cv_V p l e R s m args below meth c nL D A Q cells slots ws q lv (.ref (σ 0) :: st)) : cv_V p l e R s m args below meth c nL D A Q cells slots ws pc lv st := by
  subst hq
  exact fun H locs ls hP hD hS hl => va_gets C.1 C.2.1 C.2.2.2.2.2.2.2.1 hS C.2.2.2.1 (C.2.2.2.2.1 _ hlink) (fun _ h => h) d (k H locs ls hP hD hS hl)
theorem cv_tald {i : Int32} (C : cv_C p s m args c cc nL own Ts σ D tys A) (hi : vp_in i 4) (d : decode cc pc = .ok (.iaload, 1)) (hq : pc + 1 = q) (k : cv_V p l e R s m args below meth c nL D A Q cells slots ws q lv (.int (cv_able i.toNatClampNeg) :: st)) : cv_V p l e R s m args below meth c nL D A Q cells slots ws pc lv (.int i :: .ref (σ 0) :: st) := by
  subst hq
  exact fun H locs ls hP hD hS hl => va_ti C.1 C.2.1 C.2.2.2.2.2.2.2.2.1 hS hi rfl d (k H locs ls hP hD hS hl)
theorem cv_tlen (C : cv_C p s m args c cc nL own Ts σ D tys A) (d : decode cc pc = .ok (.arraylength, 1)) (hq : pc + 1 = q) (k : cv_V p l e R s m args below meth c nL D A Q cells slots ws q lv (.int 4 :: st)) : cv_V p l e R s m args below meth c nL D A Q cells slots ws pc lv (.ref (σ 0) :: st) := by
  subst hq
  exact fun H locs ls hP hD hS hl => va_tlen C.1 C.2.1 C.2.2.2.2.2.2.2.2.1 hS (by decide) d (k H locs ls hP hD hS hl)
theorem cv_mmax {x y : Int32} {index : Nat} (C : cv_C p s m args c cc nL own Ts σ D tys A) (hlink : Cond.methodLink own index Lib.Math.max.name ∈ Ts) (hstat : Cond.static Lib.Math.max.name ∈ Ts) (hini : Cond.initialized "java/lang/Math" ∈ Ts) (hcode : Cond.code Lib.Math.max.name Lib.Math.max.code 2 (some .int) ∈ Ts) (hfr : 1 ≤ R.frames) (hlo : (st.map fun v => v.category).sum + 13 ≤ R.locals) (d : decode cc pc = .ok (.invokestatic index, 3)) (hq : pc + 3 = q) (hc : cells ≤ R.cells) (hs : slots ≤ R.slots) (k : cv_V p l e R s m args below meth c nL D A Q cells slots ws q lv (.int (cv_max x y) :: st)) : cv_V p l e R s m args below meth c nL D A Q cells slots ws pc lv (.int y :: .int x :: st) := by
  subst hq
  exact fun H locs ls hP hD hS hl => va_mmax C.1 C.2.1 (C.2.2.1.trans hl.1.symm) C.2.2.2.1 (C.2.2.2.2.1 _ hlink) (C.2.2.2.2.1 _ hstat) (C.2.2.2.2.1 _ hini) (C.2.2.2.2.1 _ hcode) hfr hlo hc hs d (k H locs ls hP hD hS hl)
theorem cv_mmin {x y : Int32} {index : Nat} (C : cv_C p s m args c cc nL own Ts σ D tys A) (hlink : Cond.methodLink own index Lib.Math.min.name ∈ Ts) (hstat : Cond.static Lib.Math.min.name ∈ Ts) (hini : Cond.initialized "java/lang/Math" ∈ Ts) (hcode : Cond.code Lib.Math.min.name Lib.Math.min.code 2 (some .int) ∈ Ts) (hfr : 1 ≤ R.frames) (hlo : (st.map fun v => v.category).sum + 13 ≤ R.locals) (d : decode cc pc = .ok (.invokestatic index, 3)) (hq : pc + 3 = q) (hc : cells ≤ R.cells) (hs : slots ≤ R.slots) (k : cv_V p l e R s m args below meth c nL D A Q cells slots ws q lv (.int (cv_min x y) :: st)) : cv_V p l e R s m args below meth c nL D A Q cells slots ws pc lv (.int y :: .int x :: st) := by
  subst hq
  exact fun H locs ls hP hD hS hl => va_mmin C.1 C.2.1 (C.2.2.1.trans hl.1.symm) C.2.2.2.1 (C.2.2.2.2.1 _ hlink) (C.2.2.2.2.1 _ hstat) (C.2.2.2.2.1 _ hini) (C.2.2.2.2.1 _ hcode) hfr hlo hc hs d (k H locs ls hP hD hS hl)
theorem cv_cut {ws' : va_W} {pc' : Nat} {lv' : List (Nat × Value)} {st' : List Value} (k : cv_V p l e R s m args below meth c nL D A Q cells slots ws' pc' lv' st') (f : cv_V p l e R s m args below meth c nL D A Q cells slots ws' pc' lv' st' → cv_V p l e R s m args below meth c nL D A Q cells slots ws pc lv st) : cv_V p l e R s m args below meth c nL D A Q cells slots ws pc lv st := f k
theorem cv_ldcs (C : cv_C p s m args c cc nL RX1 Ts σ D tys A) (d : decode cc pc = .ok (.ldc 25, 2)) (hq : pc + 2 = q) (k : cv_V p l e R s m args below meth c nL D A Q cells slots ws q lv (.ref (σ 1) :: st)) : cv_V p l e R s m args below meth c nL D A Q cells slots ws pc lv st := by
  subst hq
  exact fun H locs ls hP hD hS hl => va_ldcS C.1 C.2.1 C.2.2.2.1 C.2.2.2.2.2.2.2.2.2.1 d (k H locs ls hP hD hS hl)
theorem cv_gcs {index : Nat} (C : cv_C p s m args c cc nL own Ts σ D tys A) (hlink : Cond.fieldLink own index "java/lang/String" "COMPACT_STRINGS" "Z" ∈ Ts) (d : decode cc pc = .ok (.getstatic index, 3)) (hq : pc + 3 = q) (k : cv_V p l e R s m args below meth c nL D A Q cells slots ws q lv (.int 1 :: st)) : cv_V p l e R s m args below meth c nL D A Q cells slots ws pc lv st := by
  subst hq
  exact fun H locs ls hP hD hS hl => va_gets C.1 C.2.1 C.2.2.2.2.2.2.2.2.2.2.2.1 hS C.2.2.2.1 (C.2.2.2.2.1 _ hlink) (fun _ h => h) d (k H locs ls hP hD hS hl)
theorem cv_gtv {index : Nat} (C : cv_C p s m args c cc nL own Ts σ D tys A) (hlink : Cond.fieldLink own index "java/lang/String" "value" "[B" ∈ Ts) (d : decode cc pc = .ok (.getfield index, 3)) (hq : pc + 3 = q) (k : cv_V p l e R s m args below meth c nL D A Q cells slots ws q lv (.ref (σ 2) :: st)) : cv_V p l e R s m args below meth c nL D A Q cells slots ws pc lv (.ref (σ 1) :: st) := by
  subst hq
  exact fun H locs ls hP hD hS hl => vk_getf C.1 C.2.1 (C.2.2.2.2.2.2.2.2.2.2.1.1 0 (by decide)).2.2.1 hS C.2.2.2.1 (C.2.2.2.2.1 _ hlink) (fun _ h => h) d (k H locs ls hP hD hS hl)
theorem cv_gtc {index : Nat} (C : cv_C p s m args c cc nL own Ts σ D tys A) (hlink : Cond.fieldLink own index "java/lang/String" "coder" "B" ∈ Ts) (d : decode cc pc = .ok (.getfield index, 3)) (hq : pc + 3 = q) (k : cv_V p l e R s m args below meth c nL D A Q cells slots ws q lv (.int 0 :: st)) : cv_V p l e R s m args below meth c nL D A Q cells slots ws pc lv (.ref (σ 1) :: st) := by
  subst hq
  exact fun H locs ls hP hD hS hl => vk_getf C.1 C.2.1 (C.2.2.2.2.2.2.2.2.2.2.1.1 0 (by decide)).2.1 hS C.2.2.2.1 (C.2.2.2.2.1 _ hlink) (fun _ h => h) d (k H locs ls hP hD hS hl)
theorem cv_bald {i : Int32} (C : cv_C p s m args c cc nL own Ts σ D tys A) (hi : vp_in i 5) (d : decode cc pc = .ok (.baload, 1)) (hq : pc + 1 = q) (k : cv_V p l e R s m args below meth c nL D A Q cells slots ws q lv (.int (cv_bt i.toNatClampNeg) :: st)) : cv_V p l e R s m args below meth c nL D A Q cells slots ws pc lv (.int i :: .ref (σ 2) :: st) := by
  subst hq
  exact fun H locs ls hP hD hS hl => va_tb C.1 C.2.1 (C.2.2.2.2.2.2.2.2.2.2.1.1 0 (by decide)).2.2.2 hS hi rfl d (k H locs ls hP hD hS hl)
theorem cv_blen (C : cv_C p s m args c cc nL own Ts σ D tys A) (d : decode cc pc = .ok (.arraylength, 1)) (hq : pc + 1 = q) (k : cv_V p l e R s m args below meth c nL D A Q cells slots ws q lv (.int 5 :: st)) : cv_V p l e R s m args below meth c nL D A Q cells slots ws pc lv (.ref (σ 2) :: st) := by
  subst hq
  exact fun H locs ls hP hD hS hl => va_tlen C.1 C.2.1 (C.2.2.2.2.2.2.2.2.2.2.1.1 0 (by decide)).2.2.2 hS (by decide) d (k H locs ls hP hD hS hl)
theorem cv_bret {v : Int32} (C : cv_C p s m args c cc nL own Ts σ D tys A) (hr : meth.sig.returnType = some .byte) (hlocks : meth.locks = false) (hn : narrow .byte (.int v) = .int v) (d : decode cc pc = .ok (.ireturn, 1)) : cv_V p l e R s m args below meth c nL D A (cv_Q below (some (.int v)) ws D tys A args s) 0 0 ws pc lv [.int v] :=
  fun H locs ls hP hD hS hl => W.zret C.1 C.2.1 hr hn (fun t ht hW => ⟨⟨rfl, by rw [ht]; exact hP, va_K.moved hW.alike C.2.2.2.2.2.1, hD⟩, hS.F ht⟩) hS.2.2 d hlocks
theorem cv_iret {v : Int32} (C : cv_C p s m args c cc nL own Ts σ D tys A) (hr : meth.sig.returnType = some .int) (hlocks : meth.locks = false) (d : decode cc pc = .ok (.ireturn, 1)) : cv_V p l e R s m args below meth c nL D A (cv_Q below (some (.int v)) ws D tys A args s) 0 0 ws pc lv [.int v] :=
  fun H locs ls hP hD hS hl => W.iret C.1 C.2.1 hr (fun t ht hW => ⟨⟨rfl, by rw [ht]; exact hP, va_K.moved hW.alike C.2.2.2.2.2.1, hD⟩, hS.F ht⟩) hS.2.2 d hlocks
theorem cv_lret {v : Int64} (C : cv_C p s m args c cc nL own Ts σ D tys A) (hr : meth.sig.returnType = some .long) (hlocks : meth.locks = false) (d : decode cc pc = .ok (.lreturn, 1)) : cv_V p l e R s m args below meth c nL D A (cv_Q below (some (.long v)) ws D tys A args s) 0 0 ws pc lv [.long v] :=
  fun H locs ls hP hD hS hl => W.lret C.1 C.2.1 hr (fun t ht hW => ⟨⟨rfl, by rw [ht]; exact hP, va_K.moved hW.alike C.2.2.2.2.2.1, hD⟩, hS.F ht⟩) hS.2.2 d hlocks
theorem cv_zret {v : Int32} (C : cv_C p s m args c cc nL own Ts σ D tys A) (hr : meth.sig.returnType = some .boolean) (hlocks : meth.locks = false) (hn : narrow .boolean (.int v) = .int v) (d : decode cc pc = .ok (.ireturn, 1)) : cv_V p l e R s m args below meth c nL D A (cv_Q below (some (.int v)) ws D tys A args s) 0 0 ws pc lv [.int v] :=
  fun H locs ls hP hD hS hl => W.zret C.1 C.2.1 hr hn (fun t ht hW => ⟨⟨rfl, by rw [ht]; exact hP, va_K.moved hW.alike C.2.2.2.2.2.1, hD⟩, hS.F ht⟩) hS.2.2 d hlocks
theorem cv_vret (C : cv_C p s m args c cc nL own Ts σ D tys A) (hr : meth.sig.returnType = none) (hlocks : meth.locks = false) (d : decode cc pc = .ok (.return_, 1)) : cv_V p l e R s m args below meth c nL D A (cv_Q below none ws D tys A args s) 0 0 ws pc lv [] :=
  fun H locs ls hP hD hS hl => W.vret C.1 C.2.1 hr (fun t ht hW => ⟨⟨rfl, by rw [ht]; exact hP, va_K.moved hW.alike C.2.2.2.2.2.1, hD⟩, hS.F ht⟩) hS.2.2 d hlocks
/-- what a call of a contract gives: the machine goes on behind it -/
theorem cv_go {y : MethodName} {wsy : List Cond} {rm : Room} {av : List Value} {wc wr w1 ws' : va_W} {r : Option Value} {st0 : List Value} (C : cv_C p s m args c cc nL own Ts σ D tys A) (hM : cv_M l y wsy rm σ D tys av wc r w1)
    (run : ∀ (H : Heap) (locs : List Loc) (ls : Array Slot), ls.size = nL → va_P D vwCl ws H → va_S A s.heap H locs → PreS s H (cv_Pc σ D tys av wc H.size) av → va_Run p l e R s m args below meth c H locs cells slots 0 0 (F0 m pc ls st0) st (cv_Qc D tys r w1 (va_A wc H.size) av.toArray) (va_A wc H.size))
    (isC isR : List Nat) (hC : isC.map (fun i => ws[i]?) = wc.map some) (hR : isR.map (fun i => ws[i]?) = wr.map some) (hn : va_nd isR = true) (hnC : va_nd isC = true) (hdis : ∀ i ∈ isR, i ∉ isC) (ks : List Nat) (hkn : va_nd ks = true) (hks : ks.map (fun i => (wr ++ w1)[i]?) = ws'.map some) (hq : pc + 3 = q)
    (k : cv_V p l e R s m args below meth c nL D A Q cells slots ws' q lv (r.toList ++ st)) : cv_V p l e R s m args below meth c nL D A Q cells slots ws pc lv st0 := by
  subst hq
  intro H locs ls hP hD hS hl
  have hPc : va_P D vwCl wc H := hP.sub isC (cv_fm hC)
  have hDc : va_D A wc := hD.sub isC hnC hC
  have hF : ∀ q, va_A wc H.size q → A q := va_free hD hS C.2.2.2.2.2.2.1 isC hC
  have hpre : PreS s H (cv_Pc σ D tys av wc H.size) av := ⟨cv_Pc.blind, fun U hU hW => ⟨rfl, by rw [hU], by rw [hU]; exact hPc, va_K.moved hW.alike C.2.2.2.2.2.1, hDc.weaken (fun _ _ _ _ => trivial), C.2.2.2.2.2.2.2.go hW (fun a h1 h2 => by rw [hU]; exact hS.2.1 a h1 h2) hF⟩⟩
  intro T hT X
  obtain ⟨v, st₀, t, T', L, h0, X', hL, e1, e2, ⟨⟨hv, hP1, hK1, hD1⟩, hz, hk⟩, go⟩ := run H locs ls hl.1 hP hS hpre T hT X
  cases hv
  rw [h0] at hz hk
  obtain ⟨hP2, hD2⟩ := va_join hP hD isC isR hC hR hn hdis hk hF hP1 hD1
  have hS2 : va_S A s.heap t.heap (locs ++ L) := ⟨Nat.le_trans hS.1 hz, fun q h1 h2 => by rw [hk q (Nat.lt_of_lt_of_le h1 hS.1) (fun z => h2 (hF q z))]; exact hS.2.1 q h1 h2, fun x hx => (List.mem_append.mp hx).elim (hS.2.2 x) (fun h => hF _ (hL x h))⟩
  obtain ⟨t2, a1, b1⟩ := k t.heap (locs ++ L) ls (hP2.sub ks (cv_fm hks)) (hD2.sub ks hkn hks) hS2 hl T' e1 X'
  exact ⟨t2, go t2 a1, b1⟩
/-- the callee's world is the caller's -/
theorem cv_goW {y : MethodName} {wsy : List Cond} {rm : Room} {av : List Value} {w1 : va_W} {r : Option Value} {st0 : List Value} (C : cv_C p s m args c cc nL own Ts σ D tys A) (hM : cv_M l y wsy rm σ D tys av ws r w1)
    (run : ∀ (H : Heap) (locs : List Loc) (ls : Array Slot), ls.size = nL → va_P D vwCl ws H → va_S A s.heap H locs → PreS s H (cv_Pc σ D tys av ws H.size) av → va_Run p l e R s m args below meth c H locs cells slots 0 0 (F0 m pc ls st0) st (cv_Qc D tys r w1 (va_A ws H.size) av.toArray) (va_A ws H.size)) (hq : pc + 3 = q)
    (k : cv_V p l e R s m args below meth c nL D A Q cells slots w1 q lv (r.toList ++ st)) : cv_V p l e R s m args below meth c nL D A Q cells slots ws pc lv st0 := by
  subst hq
  intro H locs ls hP hD hS hl
  have hF : ∀ q, va_A ws H.size q → A q := fun q h => h.elim (fun ⟨k, e, h⟩ => hD.2 k (q, e) h) (fun h => C.2.2.2.2.2.2.1 q (Nat.le_trans hS.1 h))
  have hpre : PreS s H (cv_Pc σ D tys av ws H.size) av := ⟨cv_Pc.blind, fun U hU hW => ⟨rfl, by rw [hU], by rw [hU]; exact hP, va_K.moved hW.alike C.2.2.2.2.2.1, hD.weaken (fun _ _ _ _ => trivial), C.2.2.2.2.2.2.2.go hW (fun a h1 h2 => by rw [hU]; exact hS.2.1 a h1 h2) hF⟩⟩
  intro T hT X
  obtain ⟨v, st₀, t, T', L, h0, X', hL, e1, e2, ⟨⟨hv, hP1, hK1, hD1⟩, hz, hk⟩, go⟩ := run H locs ls hl.1 hP hS hpre T hT X
  cases hv
  rw [h0] at hz hk
  have hS2 : va_S A s.heap t.heap (locs ++ L) := ⟨Nat.le_trans hS.1 hz, fun q h1 h2 => by rw [hk q (Nat.lt_of_lt_of_le h1 hS.1) (fun z => h2 (hF q z))]; exact hS.2.1 q h1 h2, fun x hx => (List.mem_append.mp hx).elim (hS.2.2 x) (fun h => hF _ (hL x h))⟩
  obtain ⟨t2, a1, b1⟩ := k t.heap (locs ++ L) ls hP1 (hD1.weaken (fun _ q _ h => hF q.1 h)) hS2 hl T' e1 X'
  exact ⟨t2, go t2 a1, b1⟩
/-- a callee without a world -/
theorem cv_goE {y : MethodName} {wsy : List Cond} {rm : Room} {av : List Value} {r : Option Value} {st0 : List Value} (C : cv_C p s m args c cc nL own Ts σ D tys A) (hM : cv_M l y wsy rm σ D tys av [] r [])
    (run : ∀ (H : Heap) (locs : List Loc) (ls : Array Slot), ls.size = nL → va_P D vwCl ws H → va_S A s.heap H locs → PreS s H (cv_Pc σ D tys av [] H.size) av → va_Run p l e R s m args below meth c H locs cells slots 0 0 (F0 m pc ls st0) st (cv_Qc D tys r [] (va_A [] H.size) av.toArray) (va_A [] H.size)) (hq : pc + 3 = q)
    (k : cv_V p l e R s m args below meth c nL D A Q cells slots ws q lv (r.toList ++ st)) : cv_V p l e R s m args below meth c nL D A Q cells slots ws pc lv st0 := by
  subst hq
  intro H locs ls hP hD hS hl
  have hF : ∀ q, va_A [] H.size q → A q := fun q h => h.elim (fun ⟨k, e, h⟩ => by simp at h) (fun h => C.2.2.2.2.2.2.1 q (Nat.le_trans hS.1 h))
  have hpre : PreS s H (cv_Pc σ D tys av [] H.size) av := ⟨cv_Pc.blind, fun U hU hW => ⟨rfl, by rw [hU], fun k q h => by simp at h, va_K.moved hW.alike C.2.2.2.2.2.1, ⟨fun i j p q h => by simp at h, fun k q h => by simp at h⟩, C.2.2.2.2.2.2.2.go hW (fun a h1 h2 => by rw [hU]; exact hS.2.1 a h1 h2) hF⟩⟩
  intro T hT X
  obtain ⟨v, st₀, t, T', L, h0, X', hL, e1, e2, ⟨⟨hv, hP1, hK1, hD1⟩, hz, hk⟩, go⟩ := run H locs ls hl.1 hP hS hpre T hT X
  cases hv
  rw [h0] at hz hk
  have hk2 : ∀ q : Nat, q < H.size → t.heap[q]? = H[q]? := fun q h => hk q h (fun z => z.elim (fun ⟨k, e, h⟩ => by simp at h) (fun z => absurd z (Nat.not_le.mpr h)))
  have hS2 : va_S A s.heap t.heap (locs ++ L) := ⟨Nat.le_trans hS.1 hz, fun q h1 h2 => by rw [hk2 q (Nat.lt_of_lt_of_le h1 hS.1)]; exact hS.2.1 q h1 h2, fun x hx => (List.mem_append.mp hx).elim (hS.2.2 x) (fun h => hF _ (hL x h))⟩
  obtain ⟨t2, a1, b1⟩ := k t.heap (locs ++ L) ls (hP.kept (fun k x hx => hk2 x.1 ((hP k x hx).lt))) hD hS2 hl T' e1 X'
  exact ⟨t2, go t2 a1, b1⟩

variable {y : MethodName} {bytes : ByteArray} {maxL n index ci q0 b : Nat} {ret : Option FieldType} {wsy wsy' : List Cond} {rm : Room} {As st0 : List Value} {wc w1 : va_W} {r : Option Value} {C0 : String} {T : u_T} {N : Nat} {fs : List Value}
theorem cv_rv (C : cv_C p s m args c cc nL own Ts σ D tys A) (hM : cv_M l y wsy rm σ D tys (.ref b :: As) wc r w1) (hc : vwCl[ci]? = some (C0, T, N)) (he : ws[q0]? = some (b, .inr (ci, fs))) (hg : GoodIn Ts (wsV own index C0 y wsy)) (hw : wsy = Cond.code y bytes maxL ret :: wsy') (hrc : rm.cells = 0 ∧ rm.slots = 0)
    (hd : y.cls = C0 ∧ y.cls ≠ "java/lang/invoke/MethodHandle" ∧ y.cls ≠ "java/lang/invoke/VarHandle" ∧ (parseMethodDescriptor y.desc).map (fun d => d.parameters.length) = some n) (hn : As.length = n) (hR : rm.frames + 1 ≤ R.frames ∧ 8 + (maxL + 11) + rm.locals ≤ R.locals) (hst : st0 = As.reverse ++ .ref b :: st) (hwd : (st.map fun v => v.category).sum ≤ 8) (d : decode cc pc = .ok (.invokevirtual index, 3)) (hf : cells ≤ R.cells ∧ slots ≤ R.slots) :
    ∀ (H : Heap) (locs : List Loc) (ls : Array Slot), ls.size = nL → va_P D vwCl ws H → va_S A s.heap H locs → PreS s H (cv_Pc σ D tys (.ref b :: As) wc H.size) (.ref b :: As) → va_Run p l e R s m args below meth c H locs cells slots 0 0 (F0 m pc ls st0) st (cv_Qc D tys r w1 (va_A wc H.size) (Value.ref b :: As).toArray) (va_A wc H.size) := by
  subst hst
  intro H locs ls hls hP hS hpre
  exact va_runV ⟨C.1, C.2.1, C.2.2.1, C.2.2.2.1, C.2.2.2.2.1⟩ (hM H.size) (cwV n C.2.2.2.2.1 hg hw hrc.1 hrc.2 hd hR) ⟨hpre.1, va_recv C.2.2.2.2.2.1 hP hc he, hpre.2⟩ rfl hn hls rfl (lv_room hwd) d hf
theorem cv_rt (C : cv_C p s m args c cc nL own Ts σ D tys A) (hM : cv_M l y wsy rm σ D tys (.ref (σ 1) :: As) wc r w1) (hg : GoodIn Ts (wsV own index RJ0 y wsy)) (hw : wsy = Cond.code y bytes maxL ret :: wsy') (hrc : rm.cells = 0 ∧ rm.slots = 0)
    (hd : y.cls = RJ0 ∧ y.cls ≠ "java/lang/invoke/MethodHandle" ∧ y.cls ≠ "java/lang/invoke/VarHandle" ∧ (parseMethodDescriptor y.desc).map (fun d => d.parameters.length) = some n) (hn : As.length = n) (hR : rm.frames + 1 ≤ R.frames ∧ 8 + (maxL + 11) + rm.locals ≤ R.locals) (hst : st0 = As.reverse ++ .ref (σ 1) :: st) (hwd : (st.map fun v => v.category).sum ≤ 8) (d : decode cc pc = .ok (.invokevirtual index, 3)) (hf : cells ≤ R.cells ∧ slots ≤ R.slots) :
    ∀ (H : Heap) (locs : List Loc) (ls : Array Slot), ls.size = nL → va_P D vwCl ws H → va_S A s.heap H locs → PreS s H (cv_Pc σ D tys (.ref (σ 1) :: As) wc H.size) (.ref (σ 1) :: As) → va_Run p l e R s m args below meth c H locs cells slots 0 0 (F0 m pc ls st0) st (cv_Qc D tys r w1 (va_A wc H.size) (Value.ref (σ 1) :: As).toArray) (va_A wc H.size) := by
  subst hst
  intro H locs ls hls hP hS hpre
  exact va_runV ⟨C.1, C.2.1, C.2.2.1, C.2.2.2.1, C.2.2.2.2.1⟩ (hM H.size) (cwV n C.2.2.2.2.1 hg hw hrc.1 hrc.2 hd hR) ⟨hpre.1, vk_recv C.2.2.2.2.2.2.2.2.2.2.1 (i := 0) (by decide) hS, hpre.2⟩ rfl hn hls rfl (lv_room hwd) d hf
theorem cv_rs (C : cv_C p s m args c cc nL own Ts σ D tys A) (hM : cv_M l y wsy rm σ D tys As wc r w1) (hg : GoodIn Ts (va_wsS own index y wsy)) (hw : wsy = Cond.code y bytes maxL ret :: wsy') (hrc : rm.cells = 0 ∧ rm.slots = 0)
    (hd : y.cls ≠ "java/lang/invoke/MethodHandle" ∧ y.cls ≠ "java/lang/invoke/VarHandle" ∧ (parseMethodDescriptor y.desc).map (fun d => d.parameters.length) = some n) (hn : As.length = n) (hR : rm.frames + 1 ≤ R.frames ∧ 8 + (maxL + 11) + rm.locals ≤ R.locals) (hst : st0 = As.reverse ++ st) (hwd : (st.map fun v => v.category).sum ≤ 8) (d : decode cc pc = .ok (.invokestatic index, 3)) (hf : cells ≤ R.cells ∧ slots ≤ R.slots) :
    ∀ (H : Heap) (locs : List Loc) (ls : Array Slot), ls.size = nL → va_P D vwCl ws H → va_S A s.heap H locs → PreS s H (cv_Pc σ D tys As wc H.size) As → va_Run p l e R s m args below meth c H locs cells slots 0 0 (F0 m pc ls st0) st (cv_Qc D tys r w1 (va_A wc H.size) As.toArray) (va_A wc H.size) := by
  subst hst
  intro H locs ls hls hP hS hpre
  exact va_runS ⟨C.1, C.2.1, C.2.2.1, C.2.2.2.1, C.2.2.2.2.1⟩ (hM H.size) (va_cwS n C.2.2.2.2.1 hg hw hrc.1 hrc.2 hd hR) hpre rfl hn hls rfl (lv_room hwd) d hf
theorem cv_rn {host : String} (C : cv_C p s m args c cc nL own Ts σ D tys A) (hM : cv_M l y wsy rm σ D tys As wc r w1) (hg : GoodIn Ts wsy) (hnw : va_Nw (.methodLinkNest own index y host) s) (hsta : Cond.static y ∈ Ts) (hini : Cond.initialized y.cls ∈ Ts) (hw : wsy = Cond.code y bytes maxL ret :: wsy') (hrc : rm.cells = 0 ∧ rm.slots = 0)
    (hd : y.cls ≠ "java/lang/invoke/MethodHandle" ∧ y.cls ≠ "java/lang/invoke/VarHandle" ∧ (parseMethodDescriptor y.desc).map (fun d => d.parameters.length) = some n) (hn : As.length = n) (hR : rm.frames + 1 ≤ R.frames ∧ 8 + (maxL + 11) + rm.locals ≤ R.locals) (hst : st0 = As.reverse ++ st) (hwd : (st.map fun v => v.category).sum ≤ 8) (d : decode cc pc = .ok (.invokestatic index, 3)) (hf : cells ≤ R.cells ∧ slots ≤ R.slots) :
    ∀ (H : Heap) (locs : List Loc) (ls : Array Slot), ls.size = nL → va_P D vwCl ws H → va_S A s.heap H locs → PreS s H (cv_Pc σ D tys As wc H.size) As → va_Run p l e R s m args below meth c H locs cells slots 0 0 (F0 m pc ls st0) st (cv_Qc D tys r w1 (va_A wc H.size) As.toArray) (va_A wc H.size) := by
  subst hst
  intro H locs ls hls hP hS hpre
  exact va_runSN ⟨C.1, C.2.1, C.2.2.1, C.2.2.2.1, C.2.2.2.2.1⟩ (hM H.size) ⟨va_cnB n C.2.2.2.2.1 hg hw hrc.1 hrc.2 hnw (C.2.2.2.2.1 _ hini) hd hR, C.2.2.2.2.1 _ hsta, trivial⟩ hpre rfl hn hls rfl (lv_room hwd) d hf
end CV
/-- a contract out of a walk of the body -/
theorem cv_M.of {l : Launch} {y : MethodName} {wsy wsy' : List Cond} {rm : Room} {σ : Nat → Nat} {D : va_G} {tys : List (ClassId × FieldType)} {As : List Value} {wc : va_W} {r : Option Value} {w1 : va_W} {cc : ByteArray} {maxL : Nat} {ret : Option FieldType} {own : String} {lv : List (Nat × Value)} (hy : plainName y.cls = true) (ho : y.cls = own) (hw : wsy = Cond.code y cc maxL ret :: wsy') (hlv : lv_args 0 As = lv) (hle : (lg_sl As).length ≤ maxL)
    (body : ∀ (p : Program) (e : Env) (s : State) (m : MethodId) (args : Array Value) (below : List Frame) (meth : Method) (c : Code) (A : Nat → Prop), cv_C p s m args c cc maxL own wsy σ D tys A → meth.sig.returnType = ret → meth.locks = false → cv_V p l e rm s m args below meth c maxL D A (cv_Q below r w1 D tys A args s) 0 0 wc 0 lv []) : cv_M l y wsy rm σ D tys As wc r w1 := by
  intro sz
  refine Met.ofW (cc := cc) (maxL := maxL) (ret := ret) hy hw ?_
  intro p e s m args below meth c s₁ B hml hv
  obtain ⟨rfl, hsz, hP, hK, hD0, hst⟩ := hv
  subst hsz
  subst ho
  have hl := lv_entry As (n := maxL) hle
  rw [hlv] at hl
  rw [lg_entry_eq]
  exact body p e s m As.toArray below meth c (va_A wc s.heap.size) ⟨B.exec, B.bytes, hml, findClass_of_methodNamed B.named, atoms_spec (ws := wsy) B.pre, hK, fun q h => Or.inr h, hst⟩ B.returns B.notSynchronized s.heap [] _ hP hD0.self va_S.rf hl

