def fX0_add (S : SX0) (a1 : Int32) : Option (SX0) :=
  if (60 : Int32) ≤ (gX0_length S) then
    (
    some S
    )
  else
    (
    cv_gd (0 ≤ ((gX0_length S)).toInt ∧ ((gX0_length S)).toInt < 60) <|
    cv_lt (sX0_keys S (upd (gX0_keys S) ((gX0_length S)).toNatClampNeg a1)) fun s3 =>
    cv_lt (sX0_length s3 ((gX0_length s3) + (1 : Int32))) fun s4 =>
    some s4
    )
abbrev rX0_add : Room := { frames := 0, cells := 0, slots := 0, locals := 0 }
theorem iX0_add_X0 : ∀ w ∈ u_ws RX0 TX0 2, w ∈ wsX0_add := fun w h => List.mem_cons_of_mem _ (List.mem_append_right _ h)
set_option maxHeartbeats 4000000 in
set_option maxRecDepth 100000 in
theorem KX0_add {l : Launch} {σ : Nat → Nat} {D : va_G} {cy : ClassId} (q : Nat → Nat) (S : SX0) (a1 : Int32) {res : SX0} (hm : fX0_add S a1 = some res) : cv_M l yX0_add wsX0_add rX0_add σ D [(cy, .int)] [.ref (q 0), .int a1] (wX0 q cy S) none (wX0 q cy res) := by
  unfold fX0_add at hm
  refine cv_M.of (own := RX0) (by decide +kernel) rfl rfl (lv := [(0, .ref (q 0)), (1, .int a1)]) rfl (Nat.le_of_ble_eq_true rfl) ?_
  intro p e s m args below meth c A C hr hk
  refine cv_aload_n (i := 0) (q := 1) 0 C dX0_add_0 rfl rfl rfl ?_
  refine cv_get (q := 4) C iX0_add_X0 0 rfl rfl 1 (by decide) (List.mem_of_getElem? (i := 1) rfl) rfl rfl dX0_add_1 rfl ?_
  refine cv_aload_n (i := 0) (q := 5) 0 C dX0_add_4 rfl rfl rfl ?_
  refine cv_get (q := 8) C iX0_add_X0 0 rfl rfl 0 (by decide) (List.mem_of_getElem? (i := 2) rfl) rfl rfl dX0_add_5 rfl ?_
  refine cv_alen (v := 60) (q := 9) C 1 0 rfl rfl (by decide) dX0_add_8 rfl ?_
  refine cv_icmp_ge (tgt := 32) (q := 12) C dX0_add_9 (by decide) rfl (fun h1 => ?_) (fun h1 => ?_)
  · have hm := cv_if_t h1 hm
    obtain rfl := Option.some.inj hm
    exact cv_vret C hr hk dX0_add_32
  · have hm := cv_if_f h1 hm
    refine cv_aload_n (i := 0) (q := 13) 0 C dX0_add_12 rfl rfl rfl ?_
    refine cv_get (q := 16) C iX0_add_X0 0 rfl rfl 0 (by decide) (List.mem_of_getElem? (i := 2) rfl) rfl rfl dX0_add_13 rfl ?_
    refine cv_aload_n (i := 0) (q := 17) 0 C dX0_add_16 rfl rfl rfl ?_
    refine cv_get (q := 20) C iX0_add_X0 0 rfl rfl 1 (by decide) (List.mem_of_getElem? (i := 1) rfl) rfl rfl dX0_add_17 rfl ?_
    refine cv_iload_n (i := 1) (q := 21) 1 C dX0_add_20 rfl rfl rfl ?_
    obtain ⟨g2, hm⟩ := cv_gd_s hm
    obtain ⟨s3, es3, hm⟩ := cv_lt_s hm
    refine cv_iast (q := 22) (ws' := (wX0 q cy s3)) C 1 0 rfl rfl (vp_in_iff.mpr g2) dX0_add_21 rfl (by rw [es3]; rfl) ?_
    refine cv_aload_n (i := 0) (q := 23) 0 C dX0_add_22 rfl rfl rfl ?_
    refine cv_dup (q := 24) C dX0_add_23 rfl rfl ?_
    refine cv_get (q := 27) C iX0_add_X0 0 rfl rfl 1 (by decide) (List.mem_of_getElem? (i := 1) rfl) rfl rfl dX0_add_24 rfl ?_
    refine cv_iconst (v := 1) (q := 28) C dX0_add_27 (by decide) rfl ?_
    refine cv_iadd (q := 29) C dX0_add_28 rfl ?_
    obtain ⟨s4, es4, hm⟩ := cv_lt_s hm
    refine cv_put (q := 32) (ws' := (wX0 q cy s4)) C iX0_add_X0 tyX0 tyX0_ok nmX0 0 rfl rfl 1 (by decide) (List.mem_of_getElem? (i := 1) rfl) rfl rfl rfl rfl rfl (Nat.le_of_ble_eq_true rfl) dX0_add_29 rfl (by rw [es4]; rfl) ?_
    obtain rfl := Option.some.inj hm
    exact cv_vret C hr hk dX0_add_32
def fX0_copy (S : SX0) (S1 : SX0) : Option (SX0) :=
  cv_lt (sX0_keys S (va_cpy (gX0_keys S1) (gX0_keys S) ((0 : Int32)).toNatClampNeg ((0 : Int32)).toNatClampNeg ((60 : Int32)).toNatClampNeg)) fun s1 =>
  cv_lt (sX0_length s1 (gX0_length S1)) fun s2 =>
  some s2
abbrev rX0_copy : Room := { frames := 1, cells := 0, slots := 0, locals := 60 }
theorem iX0_copy_X0 : ∀ w ∈ u_ws RX0 TX0 2, w ∈ wsX0_copy := fun w h => List.mem_cons_of_mem _ (List.mem_append_right _ h)
set_option maxHeartbeats 4000000 in
set_option maxRecDepth 100000 in
theorem KX0_copy {l : Launch} {σ : Nat → Nat} {D : va_G} {cy : ClassId} (q : Nat → Nat) (q1 : Nat → Nat) (S : SX0) (S1 : SX0) {res : SX0} (hm : fX0_copy S S1 = some res) : cv_M l yX0_copy wsX0_copy rX0_copy σ D [(cy, .int)] [.ref (q 0), .ref (q1 0)] (wX0 q cy S ++ wX0 q1 cy S1) none (wX0 q cy res ++ wX0 q1 cy S1) := by
  unfold fX0_copy at hm
  refine cv_M.of (own := RX0) (by decide +kernel) rfl rfl (lv := [(0, .ref (q 0)), (1, .ref (q1 0))]) rfl (Nat.le_of_ble_eq_true rfl) ?_
  intro p e s m args below meth c A C hr hk
  refine cv_aload_n (i := 1) (q := 1) 1 C dX0_copy_0 rfl rfl rfl ?_
  refine cv_get (q := 4) C iX0_copy_X0 2 rfl rfl 0 (by decide) (List.mem_of_getElem? (i := 1) rfl) rfl rfl dX0_copy_1 rfl ?_
  refine cv_iconst (v := 0) (q := 5) C dX0_copy_4 (by decide) rfl ?_
  refine cv_aload_n (i := 0) (q := 6) 0 C dX0_copy_5 rfl rfl rfl ?_
  refine cv_get (q := 9) C iX0_copy_X0 0 rfl rfl 0 (by decide) (List.mem_of_getElem? (i := 1) rfl) rfl rfl dX0_copy_6 rfl ?_
  refine cv_iconst (v := 0) (q := 10) C dX0_copy_9 (by decide) rfl ?_
  refine cv_bipush (v := 60) (q := 12) C dX0_copy_10 (by decide) rfl ?_
  obtain ⟨s1, es1, hm⟩ := cv_lt_s hm
  refine cv_copyi (q := 15) (ws' := (wX0 q cy s1 ++ wX0 q1 cy S1)) C (List.mem_of_getElem? (i := 2) rfl) (List.mem_of_getElem? (i := 3) rfl) (List.mem_of_getElem? (i := 4) rfl) (List.mem_of_getElem? (i := 5) rfl) 3 1 0 rfl rfl rfl (by decide) (by decide) (by decide) (by decide) (by decide) (Nat.le_of_ble_eq_true rfl) (by decide) dX0_copy_12 rfl (by rw [es1]; rfl) ?_
  refine cv_aload_n (i := 0) (q := 16) 0 C dX0_copy_15 rfl rfl rfl ?_
  refine cv_aload_n (i := 1) (q := 17) 1 C dX0_copy_16 rfl rfl rfl ?_
  refine cv_get (q := 20) C iX0_copy_X0 2 rfl rfl 1 (by decide) (List.mem_of_getElem? (i := 6) rfl) rfl rfl dX0_copy_17 rfl ?_
  obtain ⟨s2, es2, hm⟩ := cv_lt_s hm
  refine cv_put (q := 23) (ws' := (wX0 q cy s2 ++ wX0 q1 cy S1)) C iX0_copy_X0 tyX0 tyX0_ok nmX0 0 rfl rfl 1 (by decide) (List.mem_of_getElem? (i := 6) rfl) rfl rfl rfl rfl rfl (Nat.le_of_ble_eq_true rfl) dX0_copy_20 rfl (by rw [es2]; rfl) ?_
  obtain rfl := Option.some.inj hm
  exact cv_vret C hr hk dX0_copy_23
def fX2_add (S : SX2) (a1 : Int32) (a2 : Int32) : Option (Int32 × SX2) :=
  if (gX2_length S) < (6 : Int32) then
    (
    cv_gd (0 ≤ ((gX2_length S)).toInt ∧ ((gX2_length S)).toInt < 6) <|
    cv_lt (sX2_keys S (upd (gX2_keys S) ((gX2_length S)).toNatClampNeg a1)) fun s3 =>
    cv_gd (0 ≤ ((gX2_length s3)).toInt ∧ ((gX2_length s3)).toInt < 6) <|
    cv_lt (sX2_fitting s3 (upd (gX2_fitting s3) ((gX2_length s3)).toNatClampNeg a2)) fun s5 =>
    cv_lt (sX2_length s5 ((gX2_length s5) + (1 : Int32))) fun s6 =>
    some ((1 : Int32), s6)
    )
  else
    (
    some ((0 : Int32), S)
    )
abbrev rX2_add : Room := { frames := 0, cells := 0, slots := 0, locals := 0 }
theorem iX2_add_X2 : ∀ w ∈ u_ws RX2 TX2 3, w ∈ wsX2_add := fun w h => List.mem_cons_of_mem _ (List.mem_append_right _ h)
set_option maxHeartbeats 4000000 in
set_option maxRecDepth 100000 in
theorem KX2_add {l : Launch} {σ : Nat → Nat} {D : va_G} {cy : ClassId} (q : Nat → Nat) (S : SX2) (a1 : Int32) (a2 : Int32) {res : Int32 × SX2} (hm : fX2_add S a1 a2 = some res) : cv_M l yX2_add wsX2_add rX2_add σ D [(cy, .int)] [.ref (q 0), .int a1, .int a2] (wX2 q cy S) (some (.int res.1)) (wX2 q cy res.2) := by
  unfold fX2_add at hm
  refine cv_M.of (own := RX2) (by decide +kernel) rfl rfl (lv := [(0, .ref (q 0)), (1, .int a1), (2, .int a2)]) rfl (Nat.le_of_ble_eq_true rfl) ?_
  intro p e s m args below meth c A C hr hk
  refine cv_aload_n (i := 0) (q := 1) 0 C dX2_add_0 rfl rfl rfl ?_
  refine cv_get (q := 4) C iX2_add_X2 0 rfl rfl 2 (by decide) (List.mem_of_getElem? (i := 1) rfl) rfl rfl dX2_add_1 rfl ?_
  refine cv_aload_n (i := 0) (q := 5) 0 C dX2_add_4 rfl rfl rfl ?_
  refine cv_get (q := 8) C iX2_add_X2 0 rfl rfl 0 (by decide) (List.mem_of_getElem? (i := 2) rfl) rfl rfl dX2_add_5 rfl ?_
  refine cv_alen (v := 6) (q := 9) C 1 0 rfl rfl (by decide) dX2_add_8 rfl ?_
  refine cv_icmp_lt (tgt := 14) (q := 12) C dX2_add_9 (by decide) rfl (fun h1 => ?_) (fun h1 => ?_)
  · have hm := cv_if_t h1 hm
    refine cv_aload_n (i := 0) (q := 15) 0 C dX2_add_14 rfl rfl rfl ?_
    refine cv_get (q := 18) C iX2_add_X2 0 rfl rfl 0 (by decide) (List.mem_of_getElem? (i := 2) rfl) rfl rfl dX2_add_15 rfl ?_
    refine cv_aload_n (i := 0) (q := 19) 0 C dX2_add_18 rfl rfl rfl ?_
    refine cv_get (q := 22) C iX2_add_X2 0 rfl rfl 2 (by decide) (List.mem_of_getElem? (i := 1) rfl) rfl rfl dX2_add_19 rfl ?_
    refine cv_iload_n (i := 1) (q := 23) 1 C dX2_add_22 rfl rfl rfl ?_
    obtain ⟨g2, hm⟩ := cv_gd_s hm
    obtain ⟨s3, es3, hm⟩ := cv_lt_s hm
    refine cv_iast (q := 24) (ws' := (wX2 q cy s3)) C 1 0 rfl rfl (vp_in_iff.mpr g2) dX2_add_23 rfl (by rw [es3]; rfl) ?_
    refine cv_aload_n (i := 0) (q := 25) 0 C dX2_add_24 rfl rfl rfl ?_
    refine cv_get (q := 28) C iX2_add_X2 0 rfl rfl 1 (by decide) (List.mem_of_getElem? (i := 3) rfl) rfl rfl dX2_add_25 rfl ?_
    refine cv_aload_n (i := 0) (q := 29) 0 C dX2_add_28 rfl rfl rfl ?_
    refine cv_get (q := 32) C iX2_add_X2 0 rfl rfl 2 (by decide) (List.mem_of_getElem? (i := 1) rfl) rfl rfl dX2_add_29 rfl ?_
    refine cv_iload_n (i := 2) (q := 33) 2 C dX2_add_32 rfl rfl rfl ?_
    obtain ⟨g4, hm⟩ := cv_gd_s hm
    obtain ⟨s5, es5, hm⟩ := cv_lt_s hm
    refine cv_iast (q := 34) (ws' := (wX2 q cy s5)) C 2 0 rfl rfl (vp_in_iff.mpr g4) dX2_add_33 rfl (by rw [es5]; rfl) ?_
    refine cv_aload_n (i := 0) (q := 35) 0 C dX2_add_34 rfl rfl rfl ?_
    refine cv_dup (q := 36) C dX2_add_35 rfl rfl ?_
    refine cv_get (q := 39) C iX2_add_X2 0 rfl rfl 2 (by decide) (List.mem_of_getElem? (i := 1) rfl) rfl rfl dX2_add_36 rfl ?_
    refine cv_iconst (v := 1) (q := 40) C dX2_add_39 (by decide) rfl ?_
    refine cv_iadd (q := 41) C dX2_add_40 rfl ?_
    obtain ⟨s6, es6, hm⟩ := cv_lt_s hm
    refine cv_put (q := 44) (ws' := (wX2 q cy s6)) C iX2_add_X2 tyX2 tyX2_ok nmX2 0 rfl rfl 2 (by decide) (List.mem_of_getElem? (i := 1) rfl) rfl rfl rfl rfl rfl (Nat.le_of_ble_eq_true rfl) dX2_add_41 rfl (by rw [es6]; rfl) ?_
    refine cv_iconst (v := 1) (q := 45) C dX2_add_44 (by decide) rfl ?_
    obtain rfl := Option.some.inj hm
    exact cv_zret C hr hk (cv_bool (Or.inr rfl)) dX2_add_45
  · have hm := cv_if_f h1 hm
    refine cv_iconst (v := 0) (q := 13) C dX2_add_12 (by decide) rfl ?_
    obtain rfl := Option.some.inj hm
    exact cv_zret C hr hk (cv_bool (Or.inl rfl)) dX2_add_13
def fX2_sortsOf_L5 (S : SX2) (u1 : Int32) : Nat → Int32 → Int32 → Option (Int32)
  | 0, _, _ => none
  | n + 1, y2, y3 =>
    if (gX2_length S) ≤ y3 then
      (
      some y2
      )
    else
      (
      cv_gd (0 ≤ (y3).toInt ∧ (y3).toInt < 6) <|
      cv_bd (
        if ((gX2_keys S) (y3).toNatClampNeg) = u1 then
          (
          cv_gd (0 ≤ (y3).toInt ∧ (y3).toInt < 6) <|
          cv_lt ((y2 &&& ((gX2_fitting S) (y3).toNatClampNeg))) fun x8 =>
          some x8
          )
        else
          (
          some y2
          )
      ) fun j3 =>
      cv_lt (y3 + (1 : Int32)) fun x5 =>
      fX2_sortsOf_L5 S u1 n j3 x5
      )
def fX2_sortsOf (S : SX2) (a1 : Int32) : Option (Int32) :=
  cv_bd (fX2_sortsOf_L5 S a1 256 (31 : Int32) (0 : Int32)) fun j9 =>
  some j9
abbrev rX2_sortsOf : Room := { frames := 0, cells := 0, slots := 0, locals := 0 }
theorem iX2_sortsOf_X2 : ∀ w ∈ u_ws RX2 TX2 3, w ∈ wsX2_sortsOf := fun w h => List.mem_cons_of_mem _ (List.mem_append_right _ h)
set_option maxHeartbeats 4000000 in
set_option maxRecDepth 100000 in
theorem vX2_sortsOf_L5 {p : Program} {l : Launch} {e : Env} {s : State} {m : MethodId} {args : Array Value} {below : List Frame} {meth : Method} {c : Code} {σ : Nat → Nat} {D : va_G} {A : Nat → Prop} {cy : ClassId} (q : Nat → Nat) (S : SX2) (u1 : Int32) (C : cv_C p s m args c cX2_sortsOf 4 RX2 wsX2_sortsOf σ D [(cy, .int)] A) {Q : State → Prop} {j : Int32} : ∀ (n : Nat) (y2 : Int32) (y3 : Int32), fX2_sortsOf_L5 S u1 n y2 y3 = some j → cv_V p l e rX2_sortsOf s m args below meth c 4 D A Q 0 0 (wX2 q cy S) 38 [(2, .int j)] [] → cv_V p l e rX2_sortsOf s m args below meth c 4 D A Q 0 0 (wX2 q cy S) 5 [(0, .ref (q 0)), (1, .int u1), (2, .int y2), (3, .int y3)] [] := by
  intro n
  induction n with
  | zero => intro y2 y3 hm kx; cases hm
  | succ n ih =>
    intro y2 y3 hm kx
    have hm : fX2_sortsOf_L5 S u1 (n + 1) y2 y3 = some j := hm
    unfold fX2_sortsOf_L5 at hm
    refine cv_iload_n (i := 3) (q := 6) 3 C dX2_sortsOf_5 rfl rfl rfl ?_
    refine cv_aload_n (i := 0) (q := 7) 0 C dX2_sortsOf_6 rfl rfl rfl ?_
    refine cv_get (q := 10) C iX2_sortsOf_X2 0 rfl rfl 2 (by decide) (List.mem_of_getElem? (i := 1) rfl) rfl rfl dX2_sortsOf_7 rfl ?_
    refine cv_icmp_ge (tgt := 38) (q := 13) C dX2_sortsOf_10 (by decide) rfl (fun h1 => ?_) (fun h1 => ?_)
    · have hm := cv_if_t h1 hm
      obtain rfl := Option.some.inj hm
      refine cv_sub [2] rfl ?_
      exact kx
    · have hm := cv_if_f h1 hm
      refine cv_aload_n (i := 0) (q := 14) 0 C dX2_sortsOf_13 rfl rfl rfl ?_
      refine cv_get (q := 17) C iX2_sortsOf_X2 0 rfl rfl 0 (by decide) (List.mem_of_getElem? (i := 2) rfl) rfl rfl dX2_sortsOf_14 rfl ?_
      refine cv_iload_n (i := 3) (q := 18) 3 C dX2_sortsOf_17 rfl rfl rfl ?_
      obtain ⟨g2, hm⟩ := cv_gd_s hm
      refine cv_iald (q := 19) C 1 0 rfl rfl (vp_in_iff.mpr g2) dX2_sortsOf_18 rfl ?_
      refine cv_iload_n (i := 1) (q := 20) 1 C dX2_sortsOf_19 rfl rfl rfl ?_
      obtain ⟨j3, hj3, hm⟩ := cv_bd_s hm
      refine cv_cut (ws' := (wX2 q cy S)) (pc' := 32) (lv' := [(0, .ref (q 0)), (1, .int u1), (2, .int j3), (3, .int y3)]) (st' := []) ?_ (fun K4 => ?_)
      · obtain ⟨x5, ex5, hm⟩ := cv_lt_s hm
        refine cv_iinc (v := x5) (lv' := [(3, .int x5), (0, .ref (q 0)), (1, .int u1), (2, .int j3)]) (q := 35) 3 C dX2_sortsOf_32 rfl (by rw [ex5]; rfl) (by decide) rfl rfl ?_
        refine cv_goto (tgt := 5) C dX2_sortsOf_35 (by decide) ?_
        refine cv_sub [1, 2, 3, 0] rfl ?_
        exact ih j3 x5 hm kx
      · have hm := hj3
        refine cv_icmp_ne (tgt := 32) (q := 23) C dX2_sortsOf_20 (by decide) rfl (fun h6 => ?_) (fun h6 => ?_)
        · have hm := cv_if_f h6 hm
          obtain rfl := Option.some.inj hm
          exact K4
        · have hm := cv_if_t h6 hm
          refine cv_iload_n (i := 2) (q := 24) 2 C dX2_sortsOf_23 rfl rfl rfl ?_
          refine cv_aload_n (i := 0) (q := 25) 0 C dX2_sortsOf_24 rfl rfl rfl ?_
          refine cv_get (q := 28) C iX2_sortsOf_X2 0 rfl rfl 1 (by decide) (List.mem_of_getElem? (i := 3) rfl) rfl rfl dX2_sortsOf_25 rfl ?_
          refine cv_iload_n (i := 3) (q := 29) 3 C dX2_sortsOf_28 rfl rfl rfl ?_
          obtain ⟨g7, hm⟩ := cv_gd_s hm
          refine cv_iald (q := 30) C 2 0 rfl rfl (vp_in_iff.mpr g7) dX2_sortsOf_29 rfl ?_
          refine cv_iand (q := 31) C dX2_sortsOf_30 rfl ?_
          obtain ⟨x8, ex8, hm⟩ := cv_lt_s hm
          refine cv_topi ex8 ?_
          refine cv_istore_n (i := 2) (lv' := [(2, .int x8), (0, .ref (q 0)), (1, .int u1), (3, .int y3)]) (q := 32) C dX2_sortsOf_31 rfl (by decide) rfl rfl ?_
          obtain rfl := Option.some.inj hm
          refine cv_sub [1, 2, 0, 3] rfl ?_
          exact K4
set_option maxHeartbeats 4000000 in
set_option maxRecDepth 100000 in
theorem KX2_sortsOf {l : Launch} {σ : Nat → Nat} {D : va_G} {cy : ClassId} (q : Nat → Nat) (S : SX2) (a1 : Int32) {res : Int32} (hm : fX2_sortsOf S a1 = some res) : cv_M l yX2_sortsOf wsX2_sortsOf rX2_sortsOf σ D [(cy, .int)] [.ref (q 0), .int a1] (wX2 q cy S) (some (.int res)) (wX2 q cy S) := by
  unfold fX2_sortsOf at hm
  refine cv_M.of (own := RX2) (by decide +kernel) rfl rfl (lv := [(0, .ref (q 0)), (1, .int a1)]) rfl (Nat.le_of_ble_eq_true rfl) ?_
  intro p e s m args below meth c A C hr hk
  refine cv_bipush (v := 31) (q := 2) C dX2_sortsOf_0 (by decide) rfl ?_
  refine cv_istore_n (i := 2) (lv' := [(2, .int (31 : Int32)), (0, .ref (q 0)), (1, .int a1)]) (q := 3) C dX2_sortsOf_2 rfl (by decide) rfl rfl ?_
  refine cv_iconst (v := 0) (q := 4) C dX2_sortsOf_3 (by decide) rfl ?_
  refine cv_istore_n (i := 3) (lv' := [(3, .int (0 : Int32)), (2, .int (31 : Int32)), (0, .ref (q 0)), (1, .int a1)]) (q := 5) C dX2_sortsOf_4 rfl (by decide) rfl rfl ?_
  obtain ⟨j9, hj9, hm⟩ := cv_bd_s hm
  refine cv_cut (ws' := (wX2 q cy S)) (pc' := 38) (lv' := [(2, .int j9)]) (st' := []) ?_ (fun K10 => ?_)
  · refine cv_iload_n (i := 2) (q := 39) 0 C dX2_sortsOf_38 rfl rfl rfl ?_
    obtain rfl := Option.some.inj hm
    exact cv_iret C hr hk dX2_sortsOf_39
  · refine cv_sub [2, 3, 1, 0] rfl ?_
    exact vX2_sortsOf_L5 q S a1 C 256 (31 : Int32) (0 : Int32) hj9 K10
def fX2_copy (S : SX2) (S1 : SX2) : Option (SX2) :=
  cv_lt (sX2_keys S (va_cpy (gX2_keys S1) (gX2_keys S) ((0 : Int32)).toNatClampNeg ((0 : Int32)).toNatClampNeg ((6 : Int32)).toNatClampNeg)) fun s1 =>
  cv_lt (sX2_fitting s1 (va_cpy (gX2_fitting S1) (gX2_fitting s1) ((0 : Int32)).toNatClampNeg ((0 : Int32)).toNatClampNeg ((6 : Int32)).toNatClampNeg)) fun s2 =>
  cv_lt (sX2_length s2 (gX2_length S1)) fun s3 =>
  some s3
abbrev rX2_copy : Room := { frames := 1, cells := 0, slots := 0, locals := 60 }
theorem iX2_copy_X2 : ∀ w ∈ u_ws RX2 TX2 3, w ∈ wsX2_copy := fun w h => List.mem_cons_of_mem _ (List.mem_append_right _ h)
set_option maxHeartbeats 4000000 in
set_option maxRecDepth 100000 in
theorem KX2_copy {l : Launch} {σ : Nat → Nat} {D : va_G} {cy : ClassId} (q : Nat → Nat) (q1 : Nat → Nat) (S : SX2) (S1 : SX2) {res : SX2} (hm : fX2_copy S S1 = some res) : cv_M l yX2_copy wsX2_copy rX2_copy σ D [(cy, .int)] [.ref (q 0), .ref (q1 0)] (wX2 q cy S ++ wX2 q1 cy S1) none (wX2 q cy res ++ wX2 q1 cy S1) := by
  unfold fX2_copy at hm
  refine cv_M.of (own := RX2) (by decide +kernel) rfl rfl (lv := [(0, .ref (q 0)), (1, .ref (q1 0))]) rfl (Nat.le_of_ble_eq_true rfl) ?_
  intro p e s m args below meth c A C hr hk
  refine cv_aload_n (i := 1) (q := 1) 1 C dX2_copy_0 rfl rfl rfl ?_
  refine cv_get (q := 4) C iX2_copy_X2 3 rfl rfl 0 (by decide) (List.mem_of_getElem? (i := 1) rfl) rfl rfl dX2_copy_1 rfl ?_
  refine cv_iconst (v := 0) (q := 5) C dX2_copy_4 (by decide) rfl ?_
  refine cv_aload_n (i := 0) (q := 6) 0 C dX2_copy_5 rfl rfl rfl ?_
  refine cv_get (q := 9) C iX2_copy_X2 0 rfl rfl 0 (by decide) (List.mem_of_getElem? (i := 1) rfl) rfl rfl dX2_copy_6 rfl ?_
  refine cv_iconst (v := 0) (q := 10) C dX2_copy_9 (by decide) rfl ?_
  refine cv_bipush (v := 6) (q := 12) C dX2_copy_10 (by decide) rfl ?_
  obtain ⟨s1, es1, hm⟩ := cv_lt_s hm
  refine cv_copyi (q := 15) (ws' := (wX2 q cy s1 ++ wX2 q1 cy S1)) C (List.mem_of_getElem? (i := 2) rfl) (List.mem_of_getElem? (i := 3) rfl) (List.mem_of_getElem? (i := 4) rfl) (List.mem_of_getElem? (i := 5) rfl) 4 1 0 rfl rfl rfl (by decide) (by decide) (by decide) (by decide) (by decide) (Nat.le_of_ble_eq_true rfl) (by decide) dX2_copy_12 rfl (by rw [es1]; rfl) ?_
  refine cv_aload_n (i := 1) (q := 16) 1 C dX2_copy_15 rfl rfl rfl ?_
  refine cv_get (q := 19) C iX2_copy_X2 3 rfl rfl 1 (by decide) (List.mem_of_getElem? (i := 6) rfl) rfl rfl dX2_copy_16 rfl ?_
  refine cv_iconst (v := 0) (q := 20) C dX2_copy_19 (by decide) rfl ?_
  refine cv_aload_n (i := 0) (q := 21) 0 C dX2_copy_20 rfl rfl rfl ?_
  refine cv_get (q := 24) C iX2_copy_X2 0 rfl rfl 1 (by decide) (List.mem_of_getElem? (i := 6) rfl) rfl rfl dX2_copy_21 rfl ?_
  refine cv_iconst (v := 0) (q := 25) C dX2_copy_24 (by decide) rfl ?_
  refine cv_bipush (v := 6) (q := 27) C dX2_copy_25 (by decide) rfl ?_
  obtain ⟨s2, es2, hm⟩ := cv_lt_s hm
  refine cv_copyi (q := 30) (ws' := (wX2 q cy s2 ++ wX2 q1 cy S1)) C (List.mem_of_getElem? (i := 2) rfl) (List.mem_of_getElem? (i := 3) rfl) (List.mem_of_getElem? (i := 4) rfl) (List.mem_of_getElem? (i := 5) rfl) 5 2 0 rfl rfl rfl (by decide) (by decide) (by decide) (by decide) (by decide) (Nat.le_of_ble_eq_true rfl) (by decide) dX2_copy_27 rfl (by rw [es2]; rfl) ?_
  refine cv_aload_n (i := 0) (q := 31) 0 C dX2_copy_30 rfl rfl rfl ?_
  refine cv_aload_n (i := 1) (q := 32) 1 C dX2_copy_31 rfl rfl rfl ?_
  refine cv_get (q := 35) C iX2_copy_X2 3 rfl rfl 2 (by decide) (List.mem_of_getElem? (i := 7) rfl) rfl rfl dX2_copy_32 rfl ?_
  obtain ⟨s3, es3, hm⟩ := cv_lt_s hm
  refine cv_put (q := 38) (ws' := (wX2 q cy s3 ++ wX2 q1 cy S1)) C iX2_copy_X2 tyX2 tyX2_ok nmX2 0 rfl rfl 2 (by decide) (List.mem_of_getElem? (i := 7) rfl) rfl rfl rfl rfl rfl (Nat.le_of_ble_eq_true rfl) dX2_copy_35 rfl (by rw [es3]; rfl) ?_
  obtain rfl := Option.some.inj hm
  exact cv_vret C hr hk dX2_copy_38
def fJ7_fill_53178_L5 (n0 : Nat) (u1 : Int32) (u3 : Int32) : Nat → Int32 → (Nat → Int32) → Option ((Nat → Int32))
  | 0, _, _ => none
  | n + 1, y2, F0 =>
    if u3 ≤ y2 then
      (
      some F0
      )
    else
      (
      cv_gd (0 ≤ (y2).toInt ∧ (y2).toInt < n0) <|
      cv_lt (upd F0 (y2).toNatClampNeg u1) fun s4 =>
      cv_lt (y2 + (1 : Int32)) fun x5 =>
      fJ7_fill_53178_L5 n0 u1 u3 n x5 s4
      )
def fJ7_fill_53178 (n0 : Nat) (F0 : (Nat → Int32)) (a1 : Int32) : Option ((Nat → Int32)) :=
  cv_lt ((Int32.ofNat n0)) fun x1 =>
  cv_bd (fJ7_fill_53178_L5 n0 a1 x1 256 (0 : Int32) F0) fun j6 =>
  some j6
abbrev rJ7_fill_53178 : Room := { frames := 0, cells := 0, slots := 0, locals := 0 }
set_option maxHeartbeats 4000000 in
set_option maxRecDepth 100000 in
theorem vJ7_fill_53178_L5 {p : Program} {l : Launch} {e : Env} {s : State} {m : MethodId} {args : Array Value} {below : List Frame} {meth : Method} {c : Code} {σ : Nat → Nat} {D : va_G} {A : Nat → Prop} {cy : ClassId} (b0 : Nat) (n0 : Nat) (u1 : Int32) (u3 : Int32) (C : cv_C p s m args c cJ7_fill_53178 4 RJ7 wsJ7_fill_53178 σ D [(cy, .int)] A) {Q : State → Prop} {j : (Nat → Int32)} : ∀ (n : Nat) (y2 : Int32) (F0 : (Nat → Int32)), fJ7_fill_53178_L5 n0 u1 u3 n y2 F0 = some j → cv_V p l e rJ7_fill_53178 s m args below meth c 4 D A Q 0 0 [(b0, .inl (cy, n0, .inl j))] 20 [] [] → cv_V p l e rJ7_fill_53178 s m args below meth c 4 D A Q 0 0 [(b0, .inl (cy, n0, .inl F0))] 5 [(0, .ref b0), (1, .int u1), (2, .int y2), (3, .int u3)] [] := by
  intro n
  induction n with
  | zero => intro y2 F0 hm kx; cases hm
  | succ n ih =>
    intro y2 F0 hm kx
    have hm : fJ7_fill_53178_L5 n0 u1 u3 (n + 1) y2 F0 = some j := hm
    unfold fJ7_fill_53178_L5 at hm
    refine cv_iload_n (i := 2) (q := 6) 2 C dJ7_fill_53178_5 rfl rfl rfl ?_
    refine cv_iload_n (i := 3) (q := 7) 3 C dJ7_fill_53178_6 rfl rfl rfl ?_
    refine cv_icmp_ge (tgt := 20) (q := 10) C dJ7_fill_53178_7 (by decide) rfl (fun h2 => ?_) (fun h2 => ?_)
    · have hm := cv_if_t h2 hm
      obtain rfl := Option.some.inj hm
      refine cv_sub [] rfl ?_
      exact kx
    · have hm := cv_if_f h2 hm
      refine cv_aload_n (i := 0) (q := 11) 0 C dJ7_fill_53178_10 rfl rfl rfl ?_
      refine cv_iload_n (i := 2) (q := 12) 2 C dJ7_fill_53178_11 rfl rfl rfl ?_
      refine cv_iload_n (i := 1) (q := 13) 1 C dJ7_fill_53178_12 rfl rfl rfl ?_
      obtain ⟨g3, hm⟩ := cv_gd_s hm
      obtain ⟨s4, es4, hm⟩ := cv_lt_s hm
      refine cv_iast (q := 14) (ws' := [(b0, .inl (cy, n0, .inl s4))]) C 0 0 rfl rfl (vp_in_iff.mpr g3) dJ7_fill_53178_13 rfl (by rw [es4]; rfl) ?_
      obtain ⟨x5, ex5, hm⟩ := cv_lt_s hm
      refine cv_iinc (v := x5) (lv' := [(2, .int x5), (0, .ref b0), (1, .int u1), (3, .int u3)]) (q := 17) 2 C dJ7_fill_53178_14 rfl (by rw [ex5]; rfl) (by decide) rfl rfl ?_
      refine cv_goto (tgt := 5) C dJ7_fill_53178_17 (by decide) ?_
      refine cv_sub [1, 2, 0, 3] rfl ?_
      exact ih x5 s4 hm kx
set_option maxHeartbeats 4000000 in
set_option maxRecDepth 100000 in
theorem KJ7_fill_53178 {l : Launch} {σ : Nat → Nat} {D : va_G} {cy : ClassId} (b0 : Nat) (n0 : Nat) (F0 : (Nat → Int32)) (a1 : Int32) {res : (Nat → Int32)} (hm : fJ7_fill_53178 n0 F0 a1 = some res) : cv_M l yJ7_fill_53178 wsJ7_fill_53178 rJ7_fill_53178 σ D [(cy, .int)] [.ref b0, .int a1] [(b0, .inl (cy, n0, .inl F0))] none [(b0, .inl (cy, n0, .inl res))] := by
  unfold fJ7_fill_53178 at hm
  refine cv_M.of (own := RJ7) (by decide +kernel) rfl rfl (lv := [(0, .ref b0), (1, .int a1)]) rfl (Nat.le_of_ble_eq_true rfl) ?_
  intro p e s m args below meth c A C hr hk
  refine cv_iconst (v := 0) (q := 1) C dJ7_fill_53178_0 (by decide) rfl ?_
  refine cv_istore_n (i := 2) (lv' := [(2, .int (0 : Int32)), (0, .ref b0), (1, .int a1)]) (q := 2) C dJ7_fill_53178_1 rfl (by decide) rfl rfl ?_
  refine cv_aload_n (i := 0) (q := 3) 1 C dJ7_fill_53178_2 rfl rfl rfl ?_
  refine cv_alen  (q := 4) C 0 0 rfl rfl rfl dJ7_fill_53178_3 rfl ?_
  obtain ⟨x1, ex1, hm⟩ := cv_lt_s hm
  refine cv_topi ex1 ?_
  refine cv_istore_n (i := 3) (lv' := [(3, .int x1), (2, .int (0 : Int32)), (0, .ref b0), (1, .int a1)]) (q := 5) C dJ7_fill_53178_4 rfl (by decide) rfl rfl ?_
  obtain ⟨j6, hj6, hm⟩ := cv_bd_s hm
  refine cv_cut (ws' := [(b0, .inl (cy, n0, .inl j6))]) (pc' := 20) (lv' := []) (st' := []) ?_ (fun K7 => ?_)
  · obtain rfl := Option.some.inj hm
    exact cv_vret C hr hk dJ7_fill_53178_20
  · refine cv_sub [2, 3, 1, 0] rfl ?_
    exact vJ7_fill_53178_L5 b0 n0 a1 x1 C 256 (0 : Int32) F0 hj6 K7
def fJ6_bitCount_0f7a4 (a0 : Int32) : Option (Int32) :=
  cv_lt ((a0 - (((a0).toUInt32 >>> (((1 : Int32)).toUInt32 &&& Int32.toUInt32 31)).toInt32 &&& (1431655765 : Int32)))) fun x1 =>
  cv_lt (((x1 &&& (858993459 : Int32)) + (((x1).toUInt32 >>> (((2 : Int32)).toUInt32 &&& Int32.toUInt32 31)).toInt32 &&& (858993459 : Int32)))) fun x2 =>
  cv_lt (((x2 + ((x2).toUInt32 >>> (((4 : Int32)).toUInt32 &&& Int32.toUInt32 31)).toInt32) &&& (252645135 : Int32))) fun x3 =>
  cv_lt ((x3 + ((x3).toUInt32 >>> (((8 : Int32)).toUInt32 &&& Int32.toUInt32 31)).toInt32)) fun x4 =>
  cv_lt ((x4 + ((x4).toUInt32 >>> (((16 : Int32)).toUInt32 &&& Int32.toUInt32 31)).toInt32)) fun x5 =>
  some (x5 &&& (63 : Int32))
abbrev rJ6_bitCount_0f7a4 : Room := { frames := 0, cells := 0, slots := 0, locals := 0 }
set_option maxHeartbeats 4000000 in
set_option maxRecDepth 100000 in
theorem KJ6_bitCount_0f7a4 {l : Launch} {σ : Nat → Nat} {D : va_G} {cy : ClassId} (a0 : Int32) {res : Int32} (hm : fJ6_bitCount_0f7a4 a0 = some res) : cv_M l yJ6_bitCount_0f7a4 wsJ6_bitCount_0f7a4 rJ6_bitCount_0f7a4 σ D [(cy, .int)] [.int a0] [] (some (.int res)) [] := by
  unfold fJ6_bitCount_0f7a4 at hm
  refine cv_M.of (own := RJ6) (by decide +kernel) rfl rfl (lv := [(0, .int a0)]) rfl (Nat.le_of_ble_eq_true rfl) ?_
  intro p e s m args below meth c A C hr hk
  refine cv_iload_n (i := 0) (q := 1) 0 C dJ6_bitCount_0f7a4_0 rfl rfl rfl ?_
  refine cv_iload_n (i := 0) (q := 2) 0 C dJ6_bitCount_0f7a4_1 rfl rfl rfl ?_
  refine cv_iconst (v := 1) (q := 3) C dJ6_bitCount_0f7a4_2 (by decide) rfl ?_
  refine cv_iushr (q := 4) C dJ6_bitCount_0f7a4_3 rfl rfl ?_
  refine cv_ldc_w (v := 1431655765) (q := 7) C dJ6_bitCount_0f7a4_4 (List.mem_of_getElem? (i := 1) rfl) rfl ?_
  refine cv_iand (q := 8) C dJ6_bitCount_0f7a4_7 rfl ?_
  refine cv_isub (q := 9) C dJ6_bitCount_0f7a4_8 rfl ?_
  obtain ⟨x1, ex1, hm⟩ := cv_lt_s hm
  refine cv_topi ex1 ?_
  refine cv_istore_n (i := 0) (lv' := [(0, .int x1)]) (q := 10) C dJ6_bitCount_0f7a4_9 rfl (by decide) rfl rfl ?_
  refine cv_iload_n (i := 0) (q := 11) 0 C dJ6_bitCount_0f7a4_10 rfl rfl rfl ?_
  refine cv_ldc_w (v := 858993459) (q := 14) C dJ6_bitCount_0f7a4_11 (List.mem_of_getElem? (i := 2) rfl) rfl ?_
  refine cv_iand (q := 15) C dJ6_bitCount_0f7a4_14 rfl ?_
  refine cv_iload_n (i := 0) (q := 16) 0 C dJ6_bitCount_0f7a4_15 rfl rfl rfl ?_
  refine cv_iconst (v := 2) (q := 17) C dJ6_bitCount_0f7a4_16 (by decide) rfl ?_
  refine cv_iushr (q := 18) C dJ6_bitCount_0f7a4_17 rfl rfl ?_
  refine cv_ldc_w (v := 858993459) (q := 21) C dJ6_bitCount_0f7a4_18 (List.mem_of_getElem? (i := 2) rfl) rfl ?_
  refine cv_iand (q := 22) C dJ6_bitCount_0f7a4_21 rfl ?_
  refine cv_iadd (q := 23) C dJ6_bitCount_0f7a4_22 rfl ?_
  obtain ⟨x2, ex2, hm⟩ := cv_lt_s hm
  refine cv_topi ex2 ?_
  refine cv_istore_n (i := 0) (lv' := [(0, .int x2)]) (q := 24) C dJ6_bitCount_0f7a4_23 rfl (by decide) rfl rfl ?_
  refine cv_iload_n (i := 0) (q := 25) 0 C dJ6_bitCount_0f7a4_24 rfl rfl rfl ?_
  refine cv_iload_n (i := 0) (q := 26) 0 C dJ6_bitCount_0f7a4_25 rfl rfl rfl ?_
  refine cv_iconst (v := 4) (q := 27) C dJ6_bitCount_0f7a4_26 (by decide) rfl ?_
  refine cv_iushr (q := 28) C dJ6_bitCount_0f7a4_27 rfl rfl ?_
  refine cv_iadd (q := 29) C dJ6_bitCount_0f7a4_28 rfl ?_
  refine cv_ldc_w (v := 252645135) (q := 32) C dJ6_bitCount_0f7a4_29 (List.mem_of_getElem? (i := 3) rfl) rfl ?_
  refine cv_iand (q := 33) C dJ6_bitCount_0f7a4_32 rfl ?_
  obtain ⟨x3, ex3, hm⟩ := cv_lt_s hm
  refine cv_topi ex3 ?_
  refine cv_istore_n (i := 0) (lv' := [(0, .int x3)]) (q := 34) C dJ6_bitCount_0f7a4_33 rfl (by decide) rfl rfl ?_
  refine cv_iload_n (i := 0) (q := 35) 0 C dJ6_bitCount_0f7a4_34 rfl rfl rfl ?_
  refine cv_iload_n (i := 0) (q := 36) 0 C dJ6_bitCount_0f7a4_35 rfl rfl rfl ?_
  refine cv_bipush (v := 8) (q := 38) C dJ6_bitCount_0f7a4_36 (by decide) rfl ?_
  refine cv_iushr (q := 39) C dJ6_bitCount_0f7a4_38 rfl rfl ?_
  refine cv_iadd (q := 40) C dJ6_bitCount_0f7a4_39 rfl ?_
  obtain ⟨x4, ex4, hm⟩ := cv_lt_s hm
  refine cv_topi ex4 ?_
  refine cv_istore_n (i := 0) (lv' := [(0, .int x4)]) (q := 41) C dJ6_bitCount_0f7a4_40 rfl (by decide) rfl rfl ?_
  refine cv_iload_n (i := 0) (q := 42) 0 C dJ6_bitCount_0f7a4_41 rfl rfl rfl ?_
  refine cv_iload_n (i := 0) (q := 43) 0 C dJ6_bitCount_0f7a4_42 rfl rfl rfl ?_
  refine cv_bipush (v := 16) (q := 45) C dJ6_bitCount_0f7a4_43 (by decide) rfl ?_
  refine cv_iushr (q := 46) C dJ6_bitCount_0f7a4_45 rfl rfl ?_
  refine cv_iadd (q := 47) C dJ6_bitCount_0f7a4_46 rfl ?_
  obtain ⟨x5, ex5, hm⟩ := cv_lt_s hm
  refine cv_topi ex5 ?_
  refine cv_istore_n (i := 0) (lv' := [(0, .int x5)]) (q := 48) C dJ6_bitCount_0f7a4_47 rfl (by decide) rfl rfl ?_
  refine cv_iload_n (i := 0) (q := 49) 0 C dJ6_bitCount_0f7a4_48 rfl rfl rfl ?_
  refine cv_bipush (v := 63) (q := 51) C dJ6_bitCount_0f7a4_49 (by decide) rfl ?_
  refine cv_iand (q := 52) C dJ6_bitCount_0f7a4_51 rfl ?_
  obtain rfl := Option.some.inj hm
  exact cv_iret C hr hk dJ6_bitCount_0f7a4_52
