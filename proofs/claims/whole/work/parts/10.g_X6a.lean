def fX6_in (a0 : Int64) (a1 : Int64) (a2 : Int64) : Option (Int32) :=
  if (lg_cmp a0 a1) < 0 then
    (
    some (0 : Int32)
    )
  else
    (
    if 0 < (lg_cmp a0 a2) then
      (
      some (0 : Int32)
      )
    else
      (
      some (1 : Int32)
      )
    )
abbrev rX6_in : Room := { frames := 0, cells := 0, slots := 0, locals := 0 }
set_option maxHeartbeats 4000000 in
set_option maxRecDepth 100000 in
theorem KX6_in {l : Launch} {σ : Nat → Nat} {D : va_G} {cy : ClassId} (a0 : Int64) (a1 : Int64) (a2 : Int64) {res : Int32} (hm : fX6_in a0 a1 a2 = some res) : cv_M l yX6_in wsX6_in rX6_in σ D [(cy, .int)] [.long a0, .long a1, .long a2] [] (some (.int res)) [] := by
  unfold fX6_in at hm
  refine cv_M.of (own := RX6) (by decide +kernel) rfl rfl (lv := [(0, .long a0), (2, .long a1), (4, .long a2)]) rfl (Nat.le_of_ble_eq_true rfl) ?_
  intro p e s m args below meth c A C hr hk
  refine cv_lload_n (i := 0) (q := 1) 0 C dX6_in_0 rfl rfl rfl ?_
  refine cv_lload_n (i := 2) (q := 2) 1 C dX6_in_1 rfl rfl rfl ?_
  refine cv_lcmp (q := 3) C dX6_in_2 rfl ?_
  refine cv_if_lt (tgt := 17) (q := 6) C dX6_in_3 (by decide) rfl (fun h1 => ?_) (fun h1 => ?_)
  · have hm := cv_if_t h1 hm
    refine cv_iconst (v := 0) (q := 18) C dX6_in_17 (by decide) rfl ?_
    obtain rfl := Option.some.inj hm
    exact cv_zret C hr hk (cv_bool (Or.inl rfl)) dX6_in_18
  · have hm := cv_if_f h1 hm
    refine cv_lload_n (i := 0) (q := 7) 0 C dX6_in_6 rfl rfl rfl ?_
    refine cv_lload (i := 4) (q := 9) 2 C dX6_in_7 rfl rfl ?_
    refine cv_lcmp (q := 10) C dX6_in_9 rfl ?_
    refine cv_if_gt (tgt := 17) (q := 13) C dX6_in_10 (by decide) rfl (fun h2 => ?_) (fun h2 => ?_)
    · have hm := cv_if_t h2 hm
      refine cv_iconst (v := 0) (q := 18) C dX6_in_17 (by decide) rfl ?_
      obtain rfl := Option.some.inj hm
      exact cv_zret C hr hk (cv_bool (Or.inl rfl)) dX6_in_18
    · have hm := cv_if_f h2 hm
      refine cv_iconst (v := 1) (q := 14) C dX6_in_13 (by decide) rfl ?_
      refine cv_goto (tgt := 18) C dX6_in_14 (by decide) ?_
      obtain rfl := Option.some.inj hm
      exact cv_zret C hr hk (cv_bool (Or.inr rfl)) dX6_in_18
def fX6_copy_L2 (n0 : Nat) (n1 : Nat) (F0 : (Nat → Int32)) : Nat → Int32 → (Nat → Int32) → Option ((Nat → Int32))
  | 0, _, _ => none
  | n + 1, y2, F1 =>
    if (Int32.ofNat n0) ≤ y2 then
      (
      some F1
      )
    else
      (
      cv_gd (0 ≤ (y2).toInt ∧ (y2).toInt < n0) <|
      cv_gd (0 ≤ (y2).toInt ∧ (y2).toInt < n1) <|
      cv_lt (upd F1 (y2).toNatClampNeg (F0 (y2).toNatClampNeg)) fun s4 =>
      cv_lt (y2 + (1 : Int32)) fun x5 =>
      fX6_copy_L2 n0 n1 F0 n x5 s4
      )
def fX6_copy (n0 : Nat) (n1 : Nat) (F0 : (Nat → Int32)) (F1 : (Nat → Int32)) : Option ((Nat → Int32)) :=
  cv_bd (fX6_copy_L2 n0 n1 F0 256 (0 : Int32) F1) fun j6 =>
  some j6
abbrev rX6_copy : Room := { frames := 0, cells := 0, slots := 0, locals := 0 }
set_option maxHeartbeats 4000000 in
set_option maxRecDepth 100000 in
theorem vX6_copy_L2 {p : Program} {l : Launch} {e : Env} {s : State} {m : MethodId} {args : Array Value} {below : List Frame} {meth : Method} {c : Code} {σ : Nat → Nat} {D : va_G} {A : Nat → Prop} {cy : ClassId} (b0 : Nat) (b1 : Nat) (n0 : Nat) (n1 : Nat) (F0 : (Nat → Int32)) (C : cv_C p s m args c cX6_copy 3 RX6 wsX6_copy σ D [(cy, .int)] A) {Q : State → Prop} {j : (Nat → Int32)} : ∀ (n : Nat) (y2 : Int32) (F1 : (Nat → Int32)), fX6_copy_L2 n0 n1 F0 n y2 F1 = some j → cv_V p l e rX6_copy s m args below meth c 3 D A Q 0 0 ([(b0, .inl (cy, n0, .inl F0))] ++ [(b1, .inl (cy, n1, .inl j))]) 20 [] [] → cv_V p l e rX6_copy s m args below meth c 3 D A Q 0 0 ([(b0, .inl (cy, n0, .inl F0))] ++ [(b1, .inl (cy, n1, .inl F1))]) 2 [(0, .ref b0), (1, .ref b1), (2, .int y2)] [] := by
  intro n
  induction n with
  | zero => intro y2 F1 hm kx; cases hm
  | succ n ih =>
    intro y2 F1 hm kx
    have hm : fX6_copy_L2 n0 n1 F0 (n + 1) y2 F1 = some j := hm
    unfold fX6_copy_L2 at hm
    refine cv_iload_n (i := 2) (q := 3) 2 C dX6_copy_2 rfl rfl rfl ?_
    refine cv_aload_n (i := 0) (q := 4) 0 C dX6_copy_3 rfl rfl rfl ?_
    refine cv_alen  (q := 5) C 0 0 rfl rfl rfl dX6_copy_4 rfl ?_
    refine cv_icmp_ge (tgt := 20) (q := 8) C dX6_copy_5 (by decide) rfl (fun h1 => ?_) (fun h1 => ?_)
    · have hm := cv_if_t h1 hm
      obtain rfl := Option.some.inj hm
      refine cv_sub [] rfl ?_
      exact kx
    · have hm := cv_if_f h1 hm
      refine cv_aload_n (i := 1) (q := 9) 1 C dX6_copy_8 rfl rfl rfl ?_
      refine cv_iload_n (i := 2) (q := 10) 2 C dX6_copy_9 rfl rfl rfl ?_
      refine cv_aload_n (i := 0) (q := 11) 0 C dX6_copy_10 rfl rfl rfl ?_
      refine cv_iload_n (i := 2) (q := 12) 2 C dX6_copy_11 rfl rfl rfl ?_
      obtain ⟨g2, hm⟩ := cv_gd_s hm
      refine cv_iald (q := 13) C 0 0 rfl rfl (vp_in_iff.mpr g2) dX6_copy_12 rfl ?_
      obtain ⟨g3, hm⟩ := cv_gd_s hm
      obtain ⟨s4, es4, hm⟩ := cv_lt_s hm
      refine cv_iast (q := 14) (ws' := ([(b0, .inl (cy, n0, .inl F0))] ++ [(b1, .inl (cy, n1, .inl s4))])) C 1 0 rfl rfl (vp_in_iff.mpr g3) dX6_copy_13 rfl (by rw [es4]; rfl) ?_
      obtain ⟨x5, ex5, hm⟩ := cv_lt_s hm
      refine cv_iinc (v := x5) (lv' := [(2, .int x5), (0, .ref b0), (1, .ref b1)]) (q := 17) 2 C dX6_copy_14 rfl (by rw [ex5]; rfl) (by decide) rfl rfl ?_
      refine cv_goto (tgt := 2) C dX6_copy_17 (by decide) ?_
      refine cv_sub [1, 2, 0] rfl ?_
      exact ih x5 s4 hm kx
set_option maxHeartbeats 4000000 in
set_option maxRecDepth 100000 in
theorem KX6_copy {l : Launch} {σ : Nat → Nat} {D : va_G} {cy : ClassId} (b0 : Nat) (b1 : Nat) (n0 : Nat) (n1 : Nat) (F0 : (Nat → Int32)) (F1 : (Nat → Int32)) {res : (Nat → Int32)} (hm : fX6_copy n0 n1 F0 F1 = some res) : cv_M l yX6_copy wsX6_copy rX6_copy σ D [(cy, .int)] [.ref b0, .ref b1] ([(b0, .inl (cy, n0, .inl F0))] ++ [(b1, .inl (cy, n1, .inl F1))]) none ([(b0, .inl (cy, n0, .inl F0))] ++ [(b1, .inl (cy, n1, .inl res))]) := by
  unfold fX6_copy at hm
  refine cv_M.of (own := RX6) (by decide +kernel) rfl rfl (lv := [(0, .ref b0), (1, .ref b1)]) rfl (Nat.le_of_ble_eq_true rfl) ?_
  intro p e s m args below meth c A C hr hk
  refine cv_iconst (v := 0) (q := 1) C dX6_copy_0 (by decide) rfl ?_
  refine cv_istore_n (i := 2) (lv' := [(2, .int (0 : Int32)), (0, .ref b0), (1, .ref b1)]) (q := 2) C dX6_copy_1 rfl (by decide) rfl rfl ?_
  obtain ⟨j6, hj6, hm⟩ := cv_bd_s hm
  refine cv_cut (ws' := ([(b0, .inl (cy, n0, .inl F0))] ++ [(b1, .inl (cy, n1, .inl j6))])) (pc' := 20) (lv' := []) (st' := []) ?_ (fun K7 => ?_)
  · obtain rfl := Option.some.inj hm
    exact cv_vret C hr hk dX6_copy_20
  · refine cv_sub [1, 2, 0] rfl ?_
    exact vX6_copy_L2 b0 b1 n0 n1 F0 C 256 (0 : Int32) F1 hj6 K7
def fX6_letter (S : SX6) (a1 : Int32) : Option (Int32 × SX6) :=
  cv_bd (fX6_in ((a1).toInt64) (1 : Int64) (126 : Int64)) fun r1 =>
  if r1 = 0 then
    (
    some ((-102 : Int32), S)
    )
  else
    (
    if (gX6_pageMany S) = (54 : Int32) then
      (
      some ((-104 : Int32), S)
      )
    else
      (
      cv_gd (0 ≤ ((gX6_pageMany S)).toInt ∧ ((gX6_pageMany S)).toInt < 54) <|
      cv_lt (sX6_page S (upd (gX6_page S) ((gX6_pageMany S)).toNatClampNeg a1)) fun s5 =>
      cv_lt (sX6_pageMany s5 ((gX6_pageMany s5) + (1 : Int32))) fun s6 =>
      some ((gX6_pageMany s6), s6)
      )
    )
abbrev rX6_letter : Room := { frames := 1, cells := 0, slots := 0, locals := 25 }
theorem iX6_letter_X6 : ∀ w ∈ u_ws RX6 TX6 50, w ∈ wsX6_letter := fun w h => List.mem_cons_of_mem _ (List.mem_append_right _ h)
set_option maxHeartbeats 4000000 in
set_option maxRecDepth 100000 in
theorem KX6_letter {l : Launch} {σ : Nat → Nat} {D : va_G} {cy : ClassId} (q : Nat → Nat) (S : SX6) (a1 : Int32) {res : Int32 × SX6} (hm : fX6_letter S a1 = some res) : cv_M l yX6_letter wsX6_letter rX6_letter σ D [(cy, .int)] [.ref (q 0), .int a1] (wX6 q cy S) (some (.int res.1)) (wX6 q cy res.2) := by
  unfold fX6_letter at hm
  refine cv_M.of (own := RX6) (by decide +kernel) rfl rfl (lv := [(0, .ref (q 0)), (1, .int a1)]) rfl (Nat.le_of_ble_eq_true rfl) ?_
  intro p e s m args below meth c A C hr hk
  refine cv_iload_n (i := 1) (q := 1) 1 C dX6_letter_0 rfl rfl rfl ?_
  refine cv_i2l (q := 2) C dX6_letter_1 rfl ?_
  refine cv_lconst (v := 1) (q := 3) C dX6_letter_2 (by decide) rfl ?_
  refine cv_ldc2 (v := 126) (q := 6) C dX6_letter_3 (List.mem_of_getElem? (i := 1) rfl) rfl ?_
  obtain ⟨r1, hr1, hm⟩ := cv_bd_s hm
  refine cv_goE (q := 9) C (KX6_in (l := l) (σ := σ) (D := D) (cy := cy)     ((a1).toInt64) (1 : Int64) (126 : Int64) hr1) (cv_rs (As := [.long (a1).toInt64, .long (1 : Int64), .long (126 : Int64)]) (st := []) (n := 3) C (KX6_in (l := l) (σ := σ) (D := D) (cy := cy)     ((a1).toInt64) (1 : Int64) (126 : Int64) hr1) gX6_letter_X6_in rfl ⟨rfl, rfl⟩ (by decide +kernel) rfl ⟨Nat.le_of_ble_eq_true rfl, Nat.le_of_ble_eq_true rfl⟩ rfl (Nat.le_of_ble_eq_true rfl) dX6_letter_6 ⟨Nat.zero_le _, Nat.zero_le _⟩) rfl ?_
  refine cv_if_ne (tgt := 15) (q := 12) C dX6_letter_9 (by decide) rfl (fun h2 => ?_) (fun h2 => ?_)
  · have hm := cv_if_f h2 hm
    refine cv_aload_n (i := 0) (q := 16) 0 C dX6_letter_15 rfl rfl rfl ?_
    refine cv_get (q := 19) C iX6_letter_X6 0 rfl rfl 1 (by decide) (List.mem_of_getElem? (i := 2) rfl) rfl rfl dX6_letter_16 rfl ?_
    refine cv_bipush (v := 54) (q := 21) C dX6_letter_19 (by decide) rfl ?_
    refine cv_icmp_ne (tgt := 27) (q := 24) C dX6_letter_21 (by decide) rfl (fun h3 => ?_) (fun h3 => ?_)
    · have hm := cv_if_f h3 hm
      refine cv_aload_n (i := 0) (q := 28) 0 C dX6_letter_27 rfl rfl rfl ?_
      refine cv_get (q := 31) C iX6_letter_X6 0 rfl rfl 0 (by decide) (List.mem_of_getElem? (i := 3) rfl) rfl rfl dX6_letter_28 rfl ?_
      refine cv_aload_n (i := 0) (q := 32) 0 C dX6_letter_31 rfl rfl rfl ?_
      refine cv_get (q := 35) C iX6_letter_X6 0 rfl rfl 1 (by decide) (List.mem_of_getElem? (i := 2) rfl) rfl rfl dX6_letter_32 rfl ?_
      refine cv_iload_n (i := 1) (q := 36) 1 C dX6_letter_35 rfl rfl rfl ?_
      obtain ⟨g4, hm⟩ := cv_gd_s hm
      obtain ⟨s5, es5, hm⟩ := cv_lt_s hm
      refine cv_iast (q := 37) (ws' := (wX6 q cy s5)) C 1 0 rfl rfl (vp_in_iff.mpr g4) dX6_letter_36 rfl (by rw [es5]; rfl) ?_
      refine cv_aload_n (i := 0) (q := 38) 0 C dX6_letter_37 rfl rfl rfl ?_
      refine cv_dup (q := 39) C dX6_letter_38 rfl rfl ?_
      refine cv_get (q := 42) C iX6_letter_X6 0 rfl rfl 1 (by decide) (List.mem_of_getElem? (i := 2) rfl) rfl rfl dX6_letter_39 rfl ?_
      refine cv_iconst (v := 1) (q := 43) C dX6_letter_42 (by decide) rfl ?_
      refine cv_iadd (q := 44) C dX6_letter_43 rfl ?_
      obtain ⟨s6, es6, hm⟩ := cv_lt_s hm
      refine cv_put (q := 47) (ws' := (wX6 q cy s6)) C iX6_letter_X6 tyX6 tyX6_ok nmX6 0 rfl rfl 1 (by decide) (List.mem_of_getElem? (i := 2) rfl) rfl rfl rfl rfl rfl (Nat.le_of_ble_eq_true rfl) dX6_letter_44 rfl (by rw [es6]; rfl) ?_
      refine cv_aload_n (i := 0) (q := 48) 0 C dX6_letter_47 rfl rfl rfl ?_
      refine cv_get (q := 51) C iX6_letter_X6 0 rfl rfl 1 (by decide) (List.mem_of_getElem? (i := 2) rfl) rfl rfl dX6_letter_48 rfl ?_
      obtain rfl := Option.some.inj hm
      exact cv_iret C hr hk dX6_letter_51
    · have hm := cv_if_t h3 hm
      refine cv_bipush (v := -104) (q := 26) C dX6_letter_24 (by decide) rfl ?_
      obtain rfl := Option.some.inj hm
      exact cv_iret C hr hk dX6_letter_26
  · have hm := cv_if_t h2 hm
    refine cv_bipush (v := -102) (q := 14) C dX6_letter_12 (by decide) rfl ?_
    obtain rfl := Option.some.inj hm
    exact cv_iret C hr hk dX6_letter_14
def fX6_blank (S : SX6) : Option (Int32 × SX6) :=
  cv_lt ((gX6_pageMany S)) fun x1 =>
  cv_lt (sX6_pageMany S (0 : Int32)) fun s2 =>
  some (x1, s2)
abbrev rX6_blank : Room := { frames := 0, cells := 0, slots := 0, locals := 0 }
theorem iX6_blank_X6 : ∀ w ∈ u_ws RX6 TX6 50, w ∈ wsX6_blank := fun w h => List.mem_cons_of_mem _ (List.mem_append_right _ h)
set_option maxHeartbeats 4000000 in
set_option maxRecDepth 100000 in
theorem KX6_blank {l : Launch} {σ : Nat → Nat} {D : va_G} {cy : ClassId} (q : Nat → Nat) (S : SX6) {res : Int32 × SX6} (hm : fX6_blank S = some res) : cv_M l yX6_blank wsX6_blank rX6_blank σ D [(cy, .int)] [.ref (q 0)] (wX6 q cy S) (some (.int res.1)) (wX6 q cy res.2) := by
  unfold fX6_blank at hm
  refine cv_M.of (own := RX6) (by decide +kernel) rfl rfl (lv := [(0, .ref (q 0))]) rfl (Nat.le_of_ble_eq_true rfl) ?_
  intro p e s m args below meth c A C hr hk
  refine cv_aload_n (i := 0) (q := 1) 0 C dX6_blank_0 rfl rfl rfl ?_
  refine cv_get (q := 4) C iX6_blank_X6 0 rfl rfl 1 (by decide) (List.mem_of_getElem? (i := 1) rfl) rfl rfl dX6_blank_1 rfl ?_
  obtain ⟨x1, ex1, hm⟩ := cv_lt_s hm
  refine cv_topi ex1 ?_
  refine cv_istore_n (i := 1) (lv' := [(1, .int x1), (0, .ref (q 0))]) (q := 5) C dX6_blank_4 rfl (by decide) rfl rfl ?_
  refine cv_aload_n (i := 0) (q := 6) 1 C dX6_blank_5 rfl rfl rfl ?_
  refine cv_iconst (v := 0) (q := 7) C dX6_blank_6 (by decide) rfl ?_
  obtain ⟨s2, es2, hm⟩ := cv_lt_s hm
  refine cv_put (q := 10) (ws' := (wX6 q cy s2)) C iX6_blank_X6 tyX6 tyX6_ok nmX6 0 rfl rfl 1 (by decide) (List.mem_of_getElem? (i := 1) rfl) rfl rfl rfl rfl rfl (Nat.le_of_ble_eq_true rfl) dX6_blank_7 rfl (by rw [es2]; rfl) ?_
  refine cv_iload_n (i := 1) (q := 11) 0 C dX6_blank_10 rfl rfl rfl ?_
  obtain rfl := Option.some.inj hm
  exact cv_iret C hr hk dX6_blank_11
def fX6_kindBy (a0 : Int32) : Option (Int32) :=
  if a0 = 99 then
    (
    some (2 : Int32)
    )
  else
    (
    if a0 = 102 then
      (
      some (3 : Int32)
      )
    else
      (
      if a0 = 108 then
        (
        some (1 : Int32)
        )
      else
        (
        if a0 = 110 then
          (
          some (0 : Int32)
          )
        else
          (
          if a0 = 115 then
            (
            some (4 : Int32)
            )
          else
            (
            some (-1 : Int32)
            )
          )
        )
      )
    )
abbrev rX6_kindBy : Room := { frames := 0, cells := 0, slots := 0, locals := 0 }
set_option maxHeartbeats 4000000 in
set_option maxRecDepth 100000 in
theorem KX6_kindBy {l : Launch} {σ : Nat → Nat} {D : va_G} {cy : ClassId} (a0 : Int32) {res : Int32} (hm : fX6_kindBy a0 = some res) : cv_M l yX6_kindBy wsX6_kindBy rX6_kindBy σ D [(cy, .int)] [.int a0] [] (some (.int res)) [] := by
  unfold fX6_kindBy at hm
  refine cv_M.of (own := RX6) (by decide +kernel) rfl rfl (lv := [(0, .int a0)]) rfl (Nat.le_of_ble_eq_true rfl) ?_
  intro p e s m args below meth c A C hr hk
  refine cv_iload_n (i := 0) (q := 1) 0 C dX6_kindBy_0 rfl rfl rfl ?_
  by_cases h1 : a0 = 99
  · have hm := cv_if_t h1 hm
    refine cv_lsw (off := 55) (tgt := 56) C dX6_kindBy_1 (by decide) (by rw [h1]; first | done | rfl | decide) (by decide) ?_
    refine cv_iconst (v := 2) (q := 57) C dX6_kindBy_56 (by decide) rfl ?_
    obtain rfl := Option.some.inj hm
    exact cv_iret C hr hk dX6_kindBy_57
  · have hm := cv_if_f h1 hm
    by_cases h2 : a0 = 102
    · have hm := cv_if_t h2 hm
      refine cv_lsw (off := 57) (tgt := 58) C dX6_kindBy_1 (by decide) (by rw [h2]; first | done | rfl | decide) (by decide) ?_
      refine cv_iconst (v := 3) (q := 59) C dX6_kindBy_58 (by decide) rfl ?_
      obtain rfl := Option.some.inj hm
      exact cv_iret C hr hk dX6_kindBy_59
    · have hm := cv_if_f h2 hm
      by_cases h3 : a0 = 108
      · have hm := cv_if_t h3 hm
        refine cv_lsw (off := 53) (tgt := 54) C dX6_kindBy_1 (by decide) (by rw [h3]; first | done | rfl | decide) (by decide) ?_
        refine cv_iconst (v := 1) (q := 55) C dX6_kindBy_54 (by decide) rfl ?_
        obtain rfl := Option.some.inj hm
        exact cv_iret C hr hk dX6_kindBy_55
      · have hm := cv_if_f h3 hm
        by_cases h4 : a0 = 110
        · have hm := cv_if_t h4 hm
          refine cv_lsw (off := 51) (tgt := 52) C dX6_kindBy_1 (by decide) (by rw [h4]; first | done | rfl | decide) (by decide) ?_
          refine cv_iconst (v := 0) (q := 53) C dX6_kindBy_52 (by decide) rfl ?_
          obtain rfl := Option.some.inj hm
          exact cv_iret C hr hk dX6_kindBy_53
        · have hm := cv_if_f h4 hm
          by_cases h5 : a0 = 115
          · have hm := cv_if_t h5 hm
            refine cv_lsw (off := 59) (tgt := 60) C dX6_kindBy_1 (by decide) (by rw [h5]; first | done | rfl | decide) (by decide) ?_
            refine cv_iconst (v := 4) (q := 61) C dX6_kindBy_60 (by decide) rfl ?_
            obtain rfl := Option.some.inj hm
            exact cv_iret C hr hk dX6_kindBy_61
          · have hm := cv_if_f h5 hm
            refine cv_lsw (off := 61) (tgt := 62) C dX6_kindBy_1 (by decide) (by (try rw [lv_osw (k := 99) h1 (by decide)]); (try rw [lv_osw (k := 102) h2 (by decide)]); (try rw [lv_osw (k := 108) h3 (by decide)]); (try rw [lv_osw (k := 110) h4 (by decide)]); (try rw [lv_osw (k := 115) h5 (by decide)]); first | done | rfl) (by decide) ?_
            refine cv_iconst (v := -1) (q := 63) C dX6_kindBy_62 (by decide) rfl ?_
            obtain rfl := Option.some.inj hm
            exact cv_iret C hr hk dX6_kindBy_63
def fX6_isRatio (a0 : Int32) (a1 : Int32) : Option (Int32) :=
  cv_bd (fX6_in ((a1).toInt64) (1 : Int64) (5 : Int64)) fun r1 =>
  if r1 = 0 then
    (
    some (0 : Int32)
    )
  else
    (
    if a0 ≤ 0 then
      (
      some (0 : Int32)
      )
    else
      (
      if a1 ≤ a0 then
        (
        some (0 : Int32)
        )
      else
        (
        if ((2 : Int32) * a0) ≤ a1 then
          (
          some (0 : Int32)
          )
        else
          (
          some (1 : Int32)
          )
        )
      )
    )
abbrev rX6_isRatio : Room := { frames := 1, cells := 0, slots := 0, locals := 25 }
set_option maxHeartbeats 4000000 in
set_option maxRecDepth 100000 in
theorem KX6_isRatio {l : Launch} {σ : Nat → Nat} {D : va_G} {cy : ClassId} (a0 : Int32) (a1 : Int32) {res : Int32} (hm : fX6_isRatio a0 a1 = some res) : cv_M l yX6_isRatio wsX6_isRatio rX6_isRatio σ D [(cy, .int)] [.int a0, .int a1] [] (some (.int res)) [] := by
  unfold fX6_isRatio at hm
  refine cv_M.of (own := RX6) (by decide +kernel) rfl rfl (lv := [(0, .int a0), (1, .int a1)]) rfl (Nat.le_of_ble_eq_true rfl) ?_
  intro p e s m args below meth c A C hr hk
  refine cv_iload_n (i := 1) (q := 1) 1 C dX6_isRatio_0 rfl rfl rfl ?_
  refine cv_i2l (q := 2) C dX6_isRatio_1 rfl ?_
  refine cv_lconst (v := 1) (q := 3) C dX6_isRatio_2 (by decide) rfl ?_
  refine cv_ldc2 (v := 5) (q := 6) C dX6_isRatio_3 (List.mem_of_getElem? (i := 1) rfl) rfl ?_
  obtain ⟨r1, hr1, hm⟩ := cv_bd_s hm
  refine cv_goE (q := 9) C (KX6_in (l := l) (σ := σ) (D := D) (cy := cy)     ((a1).toInt64) (1 : Int64) (5 : Int64) hr1) (cv_rs (As := [.long (a1).toInt64, .long (1 : Int64), .long (5 : Int64)]) (st := []) (n := 3) C (KX6_in (l := l) (σ := σ) (D := D) (cy := cy)     ((a1).toInt64) (1 : Int64) (5 : Int64) hr1) gX6_isRatio_X6_in rfl ⟨rfl, rfl⟩ (by decide +kernel) rfl ⟨Nat.le_of_ble_eq_true rfl, Nat.le_of_ble_eq_true rfl⟩ rfl (Nat.le_of_ble_eq_true rfl) dX6_isRatio_6 ⟨Nat.zero_le _, Nat.zero_le _⟩) rfl ?_
  refine cv_if_eq (tgt := 32) (q := 12) C dX6_isRatio_9 (by decide) rfl (fun h2 => ?_) (fun h2 => ?_)
  · have hm := cv_if_t h2 hm
    refine cv_iconst (v := 0) (q := 33) C dX6_isRatio_32 (by decide) rfl ?_
    obtain rfl := Option.some.inj hm
    exact cv_zret C hr hk (cv_bool (Or.inl rfl)) dX6_isRatio_33
  · have hm := cv_if_f h2 hm
    refine cv_iload_n (i := 0) (q := 13) 0 C dX6_isRatio_12 rfl rfl rfl ?_
    refine cv_if_le (tgt := 32) (q := 16) C dX6_isRatio_13 (by decide) rfl (fun h3 => ?_) (fun h3 => ?_)
    · have hm := cv_if_t h3 hm
      refine cv_iconst (v := 0) (q := 33) C dX6_isRatio_32 (by decide) rfl ?_
      obtain rfl := Option.some.inj hm
      exact cv_zret C hr hk (cv_bool (Or.inl rfl)) dX6_isRatio_33
    · have hm := cv_if_f h3 hm
      refine cv_iload_n (i := 0) (q := 17) 0 C dX6_isRatio_16 rfl rfl rfl ?_
      refine cv_iload_n (i := 1) (q := 18) 1 C dX6_isRatio_17 rfl rfl rfl ?_
      refine cv_icmp_ge (tgt := 32) (q := 21) C dX6_isRatio_18 (by decide) rfl (fun h4 => ?_) (fun h4 => ?_)
      · have hm := cv_if_t h4 hm
        refine cv_iconst (v := 0) (q := 33) C dX6_isRatio_32 (by decide) rfl ?_
        obtain rfl := Option.some.inj hm
        exact cv_zret C hr hk (cv_bool (Or.inl rfl)) dX6_isRatio_33
      · have hm := cv_if_f h4 hm
        refine cv_iconst (v := 2) (q := 22) C dX6_isRatio_21 (by decide) rfl ?_
        refine cv_iload_n (i := 0) (q := 23) 0 C dX6_isRatio_22 rfl rfl rfl ?_
        refine cv_imul (q := 24) C dX6_isRatio_23 rfl ?_
        refine cv_iload_n (i := 1) (q := 25) 1 C dX6_isRatio_24 rfl rfl rfl ?_
        refine cv_icmp_le (tgt := 32) (q := 28) C dX6_isRatio_25 (by decide) rfl (fun h5 => ?_) (fun h5 => ?_)
        · have hm := cv_if_t h5 hm
          refine cv_iconst (v := 0) (q := 33) C dX6_isRatio_32 (by decide) rfl ?_
          obtain rfl := Option.some.inj hm
          exact cv_zret C hr hk (cv_bool (Or.inl rfl)) dX6_isRatio_33
        · have hm := cv_if_f h5 hm
          refine cv_iconst (v := 1) (q := 29) C dX6_isRatio_28 (by decide) rfl ?_
          refine cv_goto (tgt := 33) C dX6_isRatio_29 (by decide) ?_
          obtain rfl := Option.some.inj hm
          exact cv_zret C hr hk (cv_bool (Or.inr rfl)) dX6_isRatio_33
def fX6_keyAt (S : SX6) (a1 : Int32) : Option (Int32) :=
  cv_gd (0 ≤ (a1).toInt ∧ (a1).toInt < 54) <|
  cv_gd (0 ≤ ((a1 + (1 : Int32))).toInt ∧ ((a1 + (1 : Int32))).toInt < 54) <|
  some ((((10 : Int32) * (((gX6_page S) (a1).toNatClampNeg) - (48 : Int32))) + ((gX6_page S) ((a1 + (1 : Int32))).toNatClampNeg)) - (48 : Int32))
abbrev rX6_keyAt : Room := { frames := 0, cells := 0, slots := 0, locals := 0 }
theorem iX6_keyAt_X6 : ∀ w ∈ u_ws RX6 TX6 50, w ∈ wsX6_keyAt := fun w h => List.mem_cons_of_mem _ (List.mem_append_right _ h)
set_option maxHeartbeats 4000000 in
set_option maxRecDepth 100000 in
theorem KX6_keyAt {l : Launch} {σ : Nat → Nat} {D : va_G} {cy : ClassId} (q : Nat → Nat) (S : SX6) (a1 : Int32) {res : Int32} (hm : fX6_keyAt S a1 = some res) : cv_M l yX6_keyAt wsX6_keyAt rX6_keyAt σ D [(cy, .int)] [.ref (q 0), .int a1] (wX6 q cy S) (some (.int res)) (wX6 q cy S) := by
  unfold fX6_keyAt at hm
  refine cv_M.of (own := RX6) (by decide +kernel) rfl rfl (lv := [(0, .ref (q 0)), (1, .int a1)]) rfl (Nat.le_of_ble_eq_true rfl) ?_
  intro p e s m args below meth c A C hr hk
  refine cv_bipush (v := 10) (q := 2) C dX6_keyAt_0 (by decide) rfl ?_
  refine cv_aload_n (i := 0) (q := 3) 0 C dX6_keyAt_2 rfl rfl rfl ?_
  refine cv_get (q := 6) C iX6_keyAt_X6 0 rfl rfl 0 (by decide) (List.mem_of_getElem? (i := 1) rfl) rfl rfl dX6_keyAt_3 rfl ?_
  refine cv_iload_n (i := 1) (q := 7) 1 C dX6_keyAt_6 rfl rfl rfl ?_
  obtain ⟨g1, hm⟩ := cv_gd_s hm
  refine cv_iald (q := 8) C 1 0 rfl rfl (vp_in_iff.mpr g1) dX6_keyAt_7 rfl ?_
  refine cv_bipush (v := 48) (q := 10) C dX6_keyAt_8 (by decide) rfl ?_
  refine cv_isub (q := 11) C dX6_keyAt_10 rfl ?_
  refine cv_imul (q := 12) C dX6_keyAt_11 rfl ?_
  refine cv_aload_n (i := 0) (q := 13) 0 C dX6_keyAt_12 rfl rfl rfl ?_
  refine cv_get (q := 16) C iX6_keyAt_X6 0 rfl rfl 0 (by decide) (List.mem_of_getElem? (i := 1) rfl) rfl rfl dX6_keyAt_13 rfl ?_
  refine cv_iload_n (i := 1) (q := 17) 1 C dX6_keyAt_16 rfl rfl rfl ?_
  refine cv_iconst (v := 1) (q := 18) C dX6_keyAt_17 (by decide) rfl ?_
  refine cv_iadd (q := 19) C dX6_keyAt_18 rfl ?_
  obtain ⟨g2, hm⟩ := cv_gd_s hm
  refine cv_iald (q := 20) C 1 0 rfl rfl (vp_in_iff.mpr g2) dX6_keyAt_19 rfl ?_
  refine cv_iadd (q := 21) C dX6_keyAt_20 rfl ?_
  refine cv_bipush (v := 48) (q := 23) C dX6_keyAt_21 (by decide) rfl ?_
  refine cv_isub (q := 24) C dX6_keyAt_23 rfl ?_
  obtain rfl := Option.some.inj hm
  exact cv_iret C hr hk dX6_keyAt_24
def fX6_isTold_L5 (S : SX6) (u1 : Int32) : Nat → Int32 → Int32 → Option (Int32)
  | 0, _, _ => none
  | n + 1, y2, y3 =>
    if u1 ≤ (y3 + (1 : Int32)) then
      (
      some y2
      )
    else
      (
      cv_bd (
        if y2 = 0 then
          (
          cv_bd (fX6_keyAt S y3) fun r6 =>
          cv_bd (fX6_keyAt S (u1 - (1 : Int32))) fun r7 =>
          if r6 = r7 then
            (
            some (1 : Int32)
            )
          else
            (
            some (0 : Int32)
            )
          )
        else
          (
          some (1 : Int32)
          )
      ) fun j2 =>
      cv_lt (y3 + (6 : Int32)) fun x4 =>
      fX6_isTold_L5 S u1 n j2 x4
      )
def fX6_isTold (S : SX6) (a1 : Int32) : Option (Int32) :=
  cv_bd (fX6_isTold_L5 S a1 256 (0 : Int32) (6 : Int32)) fun j9 =>
  cv_gd (j9 = 0 ∨ j9 = 1) <|
  some j9
abbrev rX6_isTold : Room := { frames := 1, cells := 0, slots := 0, locals := 21 }
set_option maxHeartbeats 4000000 in
set_option maxRecDepth 100000 in
theorem vX6_isTold_L5 {p : Program} {l : Launch} {e : Env} {s : State} {m : MethodId} {args : Array Value} {below : List Frame} {meth : Method} {c : Code} {σ : Nat → Nat} {D : va_G} {A : Nat → Prop} {cy : ClassId} (q : Nat → Nat) (S : SX6) (u1 : Int32) (C : cv_C p s m args c cX6_isTold 4 RX6 wsX6_isTold σ D [(cy, .int)] A) {Q : State → Prop} {j : Int32} : ∀ (n : Nat) (y2 : Int32) (y3 : Int32), fX6_isTold_L5 S u1 n y2 y3 = some j → cv_V p l e rX6_isTold s m args below meth c 4 D A Q 0 0 (wX6 q cy S) 43 [(2, .int j)] [] → cv_V p l e rX6_isTold s m args below meth c 4 D A Q 0 0 (wX6 q cy S) 5 [(0, .ref (q 0)), (1, .int u1), (2, .int y2), (3, .int y3)] [] := by
  intro n
  induction n with
  | zero => intro y2 y3 hm kx; cases hm
  | succ n ih =>
    intro y2 y3 hm kx
    have hm : fX6_isTold_L5 S u1 (n + 1) y2 y3 = some j := hm
    unfold fX6_isTold_L5 at hm
    refine cv_iload_n (i := 3) (q := 6) 3 C dX6_isTold_5 rfl rfl rfl ?_
    refine cv_iconst (v := 1) (q := 7) C dX6_isTold_6 (by decide) rfl ?_
    refine cv_iadd (q := 8) C dX6_isTold_7 rfl ?_
    refine cv_iload_n (i := 1) (q := 9) 1 C dX6_isTold_8 rfl rfl rfl ?_
    refine cv_icmp_ge (tgt := 43) (q := 12) C dX6_isTold_9 (by decide) rfl (fun h1 => ?_) (fun h1 => ?_)
    · have hm := cv_if_t h1 hm
      obtain rfl := Option.some.inj hm
      refine cv_sub [2] rfl ?_
      exact kx
    · have hm := cv_if_f h1 hm
      refine cv_iload_n (i := 2) (q := 13) 2 C dX6_isTold_12 rfl rfl rfl ?_
      obtain ⟨j2, hj2, hm⟩ := cv_bd_s hm
      refine cv_cut (ws' := (wX6 q cy S)) (pc' := 36) (lv' := [(0, .ref (q 0)), (1, .int u1), (3, .int y3)]) (st' := [.int j2]) ?_ (fun K3 => ?_)
      · refine cv_istore_n (i := 2) (lv' := [(2, .int j2), (0, .ref (q 0)), (1, .int u1), (3, .int y3)]) (q := 37) C dX6_isTold_36 rfl (by decide) rfl rfl ?_
        obtain ⟨x4, ex4, hm⟩ := cv_lt_s hm
        refine cv_iinc (v := x4) (lv' := [(3, .int x4), (2, .int j2), (0, .ref (q 0)), (1, .int u1)]) (q := 40) 3 C dX6_isTold_37 rfl (by rw [ex4]; rfl) (by decide) rfl rfl ?_
        refine cv_goto (tgt := 5) C dX6_isTold_40 (by decide) ?_
        refine cv_sub [2, 3, 1, 0] rfl ?_
        exact ih j2 x4 hm kx
      · have hm := hj2
        refine cv_if_ne (tgt := 31) (q := 16) C dX6_isTold_13 (by decide) rfl (fun h5 => ?_) (fun h5 => ?_)
        · have hm := cv_if_f h5 hm
          refine cv_iconst (v := 1) (q := 32) C dX6_isTold_31 (by decide) rfl ?_
          refine cv_goto (tgt := 36) C dX6_isTold_32 (by decide) ?_
          obtain rfl := Option.some.inj hm
          refine cv_sub [0, 1, 3] rfl ?_
          exact K3
        · have hm := cv_if_t h5 hm
          refine cv_aload_n (i := 0) (q := 17) 0 C dX6_isTold_16 rfl rfl rfl ?_
          refine cv_iload_n (i := 3) (q := 18) 3 C dX6_isTold_17 rfl rfl rfl ?_
          obtain ⟨r6, hr6, hm⟩ := cv_bd_s hm
          refine cv_goW (q := 21) C (KX6_keyAt (l := l) (σ := σ) (D := D) (cy := cy)  q  S y3 hr6) (cv_rv (As := [.int y3]) (st := []) (n := 1) (q0 := 0) (ci := 6) C (KX6_keyAt (l := l) (σ := σ) (D := D) (cy := cy)  q  S y3 hr6) rfl rfl gX6_isTold_X6_keyAt rfl ⟨rfl, rfl⟩ (by decide +kernel) rfl ⟨Nat.le_of_ble_eq_true rfl, Nat.le_of_ble_eq_true rfl⟩ rfl (Nat.le_of_ble_eq_true rfl) dX6_isTold_18 ⟨Nat.zero_le _, Nat.zero_le _⟩) rfl ?_
          refine cv_aload_n (i := 0) (q := 22) 0 C dX6_isTold_21 rfl rfl rfl ?_
          refine cv_iload_n (i := 1) (q := 23) 1 C dX6_isTold_22 rfl rfl rfl ?_
          refine cv_iconst (v := 1) (q := 24) C dX6_isTold_23 (by decide) rfl ?_
          refine cv_isub (q := 25) C dX6_isTold_24 rfl ?_
          obtain ⟨r7, hr7, hm⟩ := cv_bd_s hm
          refine cv_goW (q := 28) C (KX6_keyAt (l := l) (σ := σ) (D := D) (cy := cy)  q  S (u1 - (1 : Int32)) hr7) (cv_rv (As := [.int (u1 - (1 : Int32))]) (st := [.int r6]) (n := 1) (q0 := 0) (ci := 6) C (KX6_keyAt (l := l) (σ := σ) (D := D) (cy := cy)  q  S (u1 - (1 : Int32)) hr7) rfl rfl gX6_isTold_X6_keyAt rfl ⟨rfl, rfl⟩ (by decide +kernel) rfl ⟨Nat.le_of_ble_eq_true rfl, Nat.le_of_ble_eq_true rfl⟩ rfl (Nat.le_of_ble_eq_true rfl) dX6_isTold_25 ⟨Nat.zero_le _, Nat.zero_le _⟩) rfl ?_
          refine cv_icmp_ne (tgt := 35) (q := 31) C dX6_isTold_28 (by decide) rfl (fun h8 => ?_) (fun h8 => ?_)
          · have hm := cv_if_f h8 hm
            refine cv_iconst (v := 0) (q := 36) C dX6_isTold_35 (by decide) rfl ?_
            obtain rfl := Option.some.inj hm
            refine cv_sub [0, 1, 3] rfl ?_
            exact K3
          · have hm := cv_if_t h8 hm
            refine cv_iconst (v := 1) (q := 32) C dX6_isTold_31 (by decide) rfl ?_
            refine cv_goto (tgt := 36) C dX6_isTold_32 (by decide) ?_
            obtain rfl := Option.some.inj hm
            refine cv_sub [0, 1, 3] rfl ?_
            exact K3
set_option maxHeartbeats 4000000 in
set_option maxRecDepth 100000 in
theorem KX6_isTold {l : Launch} {σ : Nat → Nat} {D : va_G} {cy : ClassId} (q : Nat → Nat) (S : SX6) (a1 : Int32) {res : Int32} (hm : fX6_isTold S a1 = some res) : cv_M l yX6_isTold wsX6_isTold rX6_isTold σ D [(cy, .int)] [.ref (q 0), .int a1] (wX6 q cy S) (some (.int res)) (wX6 q cy S) := by
  unfold fX6_isTold at hm
  refine cv_M.of (own := RX6) (by decide +kernel) rfl rfl (lv := [(0, .ref (q 0)), (1, .int a1)]) rfl (Nat.le_of_ble_eq_true rfl) ?_
  intro p e s m args below meth c A C hr hk
  refine cv_iconst (v := 0) (q := 1) C dX6_isTold_0 (by decide) rfl ?_
  refine cv_istore_n (i := 2) (lv' := [(2, .int (0 : Int32)), (0, .ref (q 0)), (1, .int a1)]) (q := 2) C dX6_isTold_1 rfl (by decide) rfl rfl ?_
  refine cv_bipush (v := 6) (q := 4) C dX6_isTold_2 (by decide) rfl ?_
  refine cv_istore_n (i := 3) (lv' := [(3, .int (6 : Int32)), (2, .int (0 : Int32)), (0, .ref (q 0)), (1, .int a1)]) (q := 5) C dX6_isTold_4 rfl (by decide) rfl rfl ?_
  obtain ⟨j9, hj9, hm⟩ := cv_bd_s hm
  refine cv_cut (ws' := (wX6 q cy S)) (pc' := 43) (lv' := [(2, .int j9)]) (st' := []) ?_ (fun K10 => ?_)
  · refine cv_iload_n (i := 2) (q := 44) 0 C dX6_isTold_43 rfl rfl rfl ?_
    obtain ⟨g11, hm⟩ := cv_gd_s hm
    obtain rfl := Option.some.inj hm
    exact cv_zret C hr hk (cv_bool g11) dX6_isTold_44
  · refine cv_sub [2, 3, 1, 0] rfl ?_
    exact vX6_isTold_L5 q S a1 C 256 (0 : Int32) (6 : Int32) hj9 K10
def fX6_isEntrySign (S : SX6) (a1 : Int32) : Option (Int32) :=
  cv_gd (0 ≤ (a1).toInt ∧ (a1).toInt < 54) <|
  cv_lt (((gX6_page S) (a1).toNatClampNeg)) fun x2 =>
  cv_lt (((a1 - (5 : Int32)) - (a1 - (5 : Int32)) / (6 : Int32) * (6 : Int32))) fun x3 =>
  if x3 = 0 then
    (
    cv_bd (fX6_kindBy x2) fun r5 =>
    if r5 = (-1 : Int32) then
      (
      some (0 : Int32)
      )
    else
      (
      some (1 : Int32)
      )
    )
  else
    (
    if x3 = 1 then
      (
      cv_bd (fX6_in ((x2).toInt64) (48 : Int64) (57 : Int64)) fun r8 =>
      cv_gd (r8 = 0 ∨ r8 = 1) <|
      some r8
      )
    else
      (
      if x3 = 2 then
        (
        cv_bd (fX6_in ((x2).toInt64) (48 : Int64) (57 : Int64)) fun r11 =>
        if r11 = 0 then
          (
          some (0 : Int32)
          )
        else
          (
          cv_bd (fX6_isTold S a1) fun r13 =>
          if r13 = 0 then
            (
            some (1 : Int32)
            )
          else
            (
            some (0 : Int32)
            )
          )
        )
      else
        (
        if x3 = 3 then
          (
          if x2 = (61 : Int32) then
            (
            some (1 : Int32)
            )
          else
            (
            some (0 : Int32)
            )
          )
        else
          (
          if x3 = 4 then
            (
            cv_bd (fX6_in ((x2).toInt64) (48 : Int64) (57 : Int64)) fun r18 =>
            cv_gd (r18 = 0 ∨ r18 = 1) <|
            some r18
            )
          else
            (
            if x2 = (44 : Int32) then
              (
              if (52 : Int32) ≤ a1 then
                (
                some (0 : Int32)
                )
              else
                (
                some (1 : Int32)
                )
              )
            else
              (
              some (0 : Int32)
              )
            )
          )
        )
      )
    )
abbrev rX6_isEntrySign : Room := { frames := 2, cells := 0, slots := 0, locals := 44 }
theorem iX6_isEntrySign_X6 : ∀ w ∈ u_ws RX6 TX6 50, w ∈ wsX6_isEntrySign := fun w h => List.mem_cons_of_mem _ (List.mem_append_right _ h)
set_option maxHeartbeats 4000000 in
set_option maxRecDepth 100000 in
theorem KX6_isEntrySign {l : Launch} {σ : Nat → Nat} {D : va_G} {cy : ClassId} (q : Nat → Nat) (S : SX6) (a1 : Int32) {res : Int32} (hm : fX6_isEntrySign S a1 = some res) : cv_M l yX6_isEntrySign wsX6_isEntrySign rX6_isEntrySign σ D [(cy, .int)] [.ref (q 0), .int a1] (wX6 q cy S) (some (.int res)) (wX6 q cy S) := by
  unfold fX6_isEntrySign at hm
  refine cv_M.of (own := RX6) (by decide +kernel) rfl rfl (lv := [(0, .ref (q 0)), (1, .int a1)]) rfl (Nat.le_of_ble_eq_true rfl) ?_
  intro p e s m args below meth c A C hr hk
  refine cv_aload_n (i := 0) (q := 1) 0 C dX6_isEntrySign_0 rfl rfl rfl ?_
  refine cv_get (q := 4) C iX6_isEntrySign_X6 0 rfl rfl 0 (by decide) (List.mem_of_getElem? (i := 1) rfl) rfl rfl dX6_isEntrySign_1 rfl ?_
  refine cv_iload_n (i := 1) (q := 5) 1 C dX6_isEntrySign_4 rfl rfl rfl ?_
  obtain ⟨g1, hm⟩ := cv_gd_s hm
  refine cv_iald (q := 6) C 1 0 rfl rfl (vp_in_iff.mpr g1) dX6_isEntrySign_5 rfl ?_
  obtain ⟨x2, ex2, hm⟩ := cv_lt_s hm
  refine cv_topi ex2 ?_
  refine cv_istore_n (i := 2) (lv' := [(2, .int x2), (0, .ref (q 0)), (1, .int a1)]) (q := 7) C dX6_isEntrySign_6 rfl (by decide) rfl rfl ?_
  refine cv_iload_n (i := 1) (q := 8) 2 C dX6_isEntrySign_7 rfl rfl rfl ?_
  refine cv_iconst (v := 5) (q := 9) C dX6_isEntrySign_8 (by decide) rfl ?_
  refine cv_isub (q := 10) C dX6_isEntrySign_9 rfl ?_
  refine cv_bipush (v := 6) (q := 12) C dX6_isEntrySign_10 (by decide) rfl ?_
  refine cv_irem (q := 13) C dX6_isEntrySign_12 (by decide) rfl ?_
  obtain ⟨x3, ex3, hm⟩ := cv_lt_s hm
  refine cv_topi ex3 ?_
  by_cases h4 : x3 = 0
  · have hm := cv_if_t h4 hm
    refine cv_tin (tgt := 48) 0 C dX6_isEntrySign_13 h4 (by decide) (by decide) rfl (by decide) ?_
    refine cv_iload_n (i := 2) (q := 49) 0 C dX6_isEntrySign_48 rfl rfl rfl ?_
    obtain ⟨r5, hr5, hm⟩ := cv_bd_s hm
    refine cv_goE (q := 52) C (KX6_kindBy (l := l) (σ := σ) (D := D) (cy := cy)     x2 hr5) (cv_rs (As := [.int x2]) (st := []) (n := 1) C (KX6_kindBy (l := l) (σ := σ) (D := D) (cy := cy)     x2 hr5) gX6_isEntrySign_X6_kindBy rfl ⟨rfl, rfl⟩ (by decide +kernel) rfl ⟨Nat.le_of_ble_eq_true rfl, Nat.le_of_ble_eq_true rfl⟩ rfl (Nat.le_of_ble_eq_true rfl) dX6_isEntrySign_49 ⟨Nat.zero_le _, Nat.zero_le _⟩) rfl ?_
    refine cv_iconst (v := -1) (q := 53) C dX6_isEntrySign_52 (by decide) rfl ?_
    refine cv_icmp_eq (tgt := 60) (q := 56) C dX6_isEntrySign_53 (by decide) rfl (fun h6 => ?_) (fun h6 => ?_)
    · have hm := cv_if_t h6 hm
      refine cv_iconst (v := 0) (q := 61) C dX6_isEntrySign_60 (by decide) rfl ?_
      obtain rfl := Option.some.inj hm
      exact cv_zret C hr hk (cv_bool (Or.inl rfl)) dX6_isEntrySign_61
    · have hm := cv_if_f h6 hm
      refine cv_iconst (v := 1) (q := 57) C dX6_isEntrySign_56 (by decide) rfl ?_
      refine cv_goto (tgt := 61) C dX6_isEntrySign_57 (by decide) ?_
      obtain rfl := Option.some.inj hm
      exact cv_zret C hr hk (cv_bool (Or.inr rfl)) dX6_isEntrySign_61
  · have hm := cv_if_f h4 hm
    by_cases h7 : x3 = 1
    · have hm := cv_if_t h7 hm
      refine cv_tin (tgt := 62) 1 C dX6_isEntrySign_13 h7 (by decide) (by decide) rfl (by decide) ?_
      refine cv_iload_n (i := 2) (q := 63) 0 C dX6_isEntrySign_62 rfl rfl rfl ?_
      refine cv_i2l (q := 64) C dX6_isEntrySign_63 rfl ?_
      refine cv_ldc2 (v := 48) (q := 67) C dX6_isEntrySign_64 (List.mem_of_getElem? (i := 2) rfl) rfl ?_
      refine cv_ldc2 (v := 57) (q := 70) C dX6_isEntrySign_67 (List.mem_of_getElem? (i := 3) rfl) rfl ?_
      obtain ⟨r8, hr8, hm⟩ := cv_bd_s hm
      refine cv_goE (q := 73) C (KX6_in (l := l) (σ := σ) (D := D) (cy := cy)     ((x2).toInt64) (48 : Int64) (57 : Int64) hr8) (cv_rs (As := [.long (x2).toInt64, .long (48 : Int64), .long (57 : Int64)]) (st := []) (n := 3) C (KX6_in (l := l) (σ := σ) (D := D) (cy := cy)     ((x2).toInt64) (48 : Int64) (57 : Int64) hr8) gX6_isEntrySign_X6_in rfl ⟨rfl, rfl⟩ (by decide +kernel) rfl ⟨Nat.le_of_ble_eq_true rfl, Nat.le_of_ble_eq_true rfl⟩ rfl (Nat.le_of_ble_eq_true rfl) dX6_isEntrySign_70 ⟨Nat.zero_le _, Nat.zero_le _⟩) rfl ?_
      obtain ⟨g9, hm⟩ := cv_gd_s hm
      obtain rfl := Option.some.inj hm
      exact cv_zret C hr hk (cv_bool g9) dX6_isEntrySign_73
    · have hm := cv_if_f h7 hm
      by_cases h10 : x3 = 2
      · have hm := cv_if_t h10 hm
        refine cv_tin (tgt := 74) 2 C dX6_isEntrySign_13 h10 (by decide) (by decide) rfl (by decide) ?_
        refine cv_iload_n (i := 2) (q := 75) 0 C dX6_isEntrySign_74 rfl rfl rfl ?_
        refine cv_i2l (q := 76) C dX6_isEntrySign_75 rfl ?_
        refine cv_ldc2 (v := 48) (q := 79) C dX6_isEntrySign_76 (List.mem_of_getElem? (i := 2) rfl) rfl ?_
        refine cv_ldc2 (v := 57) (q := 82) C dX6_isEntrySign_79 (List.mem_of_getElem? (i := 3) rfl) rfl ?_
        obtain ⟨r11, hr11, hm⟩ := cv_bd_s hm
        refine cv_goE (q := 85) C (KX6_in (l := l) (σ := σ) (D := D) (cy := cy)     ((x2).toInt64) (48 : Int64) (57 : Int64) hr11) (cv_rs (As := [.long (x2).toInt64, .long (48 : Int64), .long (57 : Int64)]) (st := []) (n := 3) C (KX6_in (l := l) (σ := σ) (D := D) (cy := cy)     ((x2).toInt64) (48 : Int64) (57 : Int64) hr11) gX6_isEntrySign_X6_in rfl ⟨rfl, rfl⟩ (by decide +kernel) rfl ⟨Nat.le_of_ble_eq_true rfl, Nat.le_of_ble_eq_true rfl⟩ rfl (Nat.le_of_ble_eq_true rfl) dX6_isEntrySign_82 ⟨Nat.zero_le _, Nat.zero_le _⟩) rfl ?_
        refine cv_if_eq (tgt := 100) (q := 88) C dX6_isEntrySign_85 (by decide) rfl (fun h12 => ?_) (fun h12 => ?_)
        · have hm := cv_if_t h12 hm
          refine cv_iconst (v := 0) (q := 101) C dX6_isEntrySign_100 (by decide) rfl ?_
          obtain rfl := Option.some.inj hm
          exact cv_zret C hr hk (cv_bool (Or.inl rfl)) dX6_isEntrySign_101
        · have hm := cv_if_f h12 hm
          refine cv_aload_n (i := 0) (q := 89) 1 C dX6_isEntrySign_88 rfl rfl rfl ?_
          refine cv_iload_n (i := 1) (q := 90) 2 C dX6_isEntrySign_89 rfl rfl rfl ?_
          obtain ⟨r13, hr13, hm⟩ := cv_bd_s hm
          refine cv_goW (q := 93) C (KX6_isTold (l := l) (σ := σ) (D := D) (cy := cy)  q  S a1 hr13) (cv_rv (As := [.int a1]) (st := []) (n := 1) (q0 := 0) (ci := 6) C (KX6_isTold (l := l) (σ := σ) (D := D) (cy := cy)  q  S a1 hr13) rfl rfl gX6_isEntrySign_X6_isTold rfl ⟨rfl, rfl⟩ (by decide +kernel) rfl ⟨Nat.le_of_ble_eq_true rfl, Nat.le_of_ble_eq_true rfl⟩ rfl (Nat.le_of_ble_eq_true rfl) dX6_isEntrySign_90 ⟨Nat.zero_le _, Nat.zero_le _⟩) rfl ?_
          refine cv_if_ne (tgt := 100) (q := 96) C dX6_isEntrySign_93 (by decide) rfl (fun h14 => ?_) (fun h14 => ?_)
          · have hm := cv_if_f h14 hm
            refine cv_iconst (v := 0) (q := 101) C dX6_isEntrySign_100 (by decide) rfl ?_
            obtain rfl := Option.some.inj hm
            exact cv_zret C hr hk (cv_bool (Or.inl rfl)) dX6_isEntrySign_101
          · have hm := cv_if_t h14 hm
            refine cv_iconst (v := 1) (q := 97) C dX6_isEntrySign_96 (by decide) rfl ?_
            refine cv_goto (tgt := 101) C dX6_isEntrySign_97 (by decide) ?_
            obtain rfl := Option.some.inj hm
            exact cv_zret C hr hk (cv_bool (Or.inr rfl)) dX6_isEntrySign_101
      · have hm := cv_if_f h10 hm
        by_cases h15 : x3 = 3
        · have hm := cv_if_t h15 hm
          refine cv_tin (tgt := 102) 3 C dX6_isEntrySign_13 h15 (by decide) (by decide) rfl (by decide) ?_
          refine cv_iload_n (i := 2) (q := 103) 0 C dX6_isEntrySign_102 rfl rfl rfl ?_
          refine cv_bipush (v := 61) (q := 105) C dX6_isEntrySign_103 (by decide) rfl ?_
          refine cv_icmp_ne (tgt := 112) (q := 108) C dX6_isEntrySign_105 (by decide) rfl (fun h16 => ?_) (fun h16 => ?_)
          · have hm := cv_if_f h16 hm
            refine cv_iconst (v := 0) (q := 113) C dX6_isEntrySign_112 (by decide) rfl ?_
            obtain rfl := Option.some.inj hm
            exact cv_zret C hr hk (cv_bool (Or.inl rfl)) dX6_isEntrySign_113
          · have hm := cv_if_t h16 hm
            refine cv_iconst (v := 1) (q := 109) C dX6_isEntrySign_108 (by decide) rfl ?_
            refine cv_goto (tgt := 113) C dX6_isEntrySign_109 (by decide) ?_
            obtain rfl := Option.some.inj hm
            exact cv_zret C hr hk (cv_bool (Or.inr rfl)) dX6_isEntrySign_113
        · have hm := cv_if_f h15 hm
          by_cases h17 : x3 = 4
          · have hm := cv_if_t h17 hm
            refine cv_tin (tgt := 62) 4 C dX6_isEntrySign_13 h17 (by decide) (by decide) rfl (by decide) ?_
            refine cv_iload_n (i := 2) (q := 63) 0 C dX6_isEntrySign_62 rfl rfl rfl ?_
            refine cv_i2l (q := 64) C dX6_isEntrySign_63 rfl ?_
            refine cv_ldc2 (v := 48) (q := 67) C dX6_isEntrySign_64 (List.mem_of_getElem? (i := 2) rfl) rfl ?_
            refine cv_ldc2 (v := 57) (q := 70) C dX6_isEntrySign_67 (List.mem_of_getElem? (i := 3) rfl) rfl ?_
            obtain ⟨r18, hr18, hm⟩ := cv_bd_s hm
            refine cv_goE (q := 73) C (KX6_in (l := l) (σ := σ) (D := D) (cy := cy)     ((x2).toInt64) (48 : Int64) (57 : Int64) hr18) (cv_rs (As := [.long (x2).toInt64, .long (48 : Int64), .long (57 : Int64)]) (st := []) (n := 3) C (KX6_in (l := l) (σ := σ) (D := D) (cy := cy)     ((x2).toInt64) (48 : Int64) (57 : Int64) hr18) gX6_isEntrySign_X6_in rfl ⟨rfl, rfl⟩ (by decide +kernel) rfl ⟨Nat.le_of_ble_eq_true rfl, Nat.le_of_ble_eq_true rfl⟩ rfl (Nat.le_of_ble_eq_true rfl) dX6_isEntrySign_70 ⟨Nat.zero_le _, Nat.zero_le _⟩) rfl ?_
            obtain ⟨g19, hm⟩ := cv_gd_s hm
            obtain rfl := Option.some.inj hm
            exact cv_zret C hr hk (cv_bool g19) dX6_isEntrySign_73
          · have hm := cv_if_f h17 hm
            refine cv_tout (tgt := 114) C dX6_isEntrySign_13 (by have h4t := lv_neT (a := 0) h4 (by decide); have h7t := lv_neT (a := 1) h7 (by decide); have h10t := lv_neT (a := 2) h10 (by decide); have h15t := lv_neT (a := 3) h15 (by decide); have h17t := lv_neT (a := 4) h17 (by decide); omega) (by decide) ?_
            refine cv_iload_n (i := 2) (q := 115) 0 C dX6_isEntrySign_114 rfl rfl rfl ?_
            refine cv_bipush (v := 44) (q := 117) C dX6_isEntrySign_115 (by decide) rfl ?_
            refine cv_icmp_ne (tgt := 130) (q := 120) C dX6_isEntrySign_117 (by decide) rfl (fun h20 => ?_) (fun h20 => ?_)
            · have hm := cv_if_f h20 hm
              refine cv_iconst (v := 0) (q := 131) C dX6_isEntrySign_130 (by decide) rfl ?_
              obtain rfl := Option.some.inj hm
              exact cv_zret C hr hk (cv_bool (Or.inl rfl)) dX6_isEntrySign_131
            · have hm := cv_if_t h20 hm
              refine cv_iload_n (i := 1) (q := 121) 2 C dX6_isEntrySign_120 rfl rfl rfl ?_
              refine cv_bipush (v := 52) (q := 123) C dX6_isEntrySign_121 (by decide) rfl ?_
              refine cv_icmp_ge (tgt := 130) (q := 126) C dX6_isEntrySign_123 (by decide) rfl (fun h21 => ?_) (fun h21 => ?_)
              · have hm := cv_if_t h21 hm
                refine cv_iconst (v := 0) (q := 131) C dX6_isEntrySign_130 (by decide) rfl ?_
                obtain rfl := Option.some.inj hm
                exact cv_zret C hr hk (cv_bool (Or.inl rfl)) dX6_isEntrySign_131
              · have hm := cv_if_f h21 hm
                refine cv_iconst (v := 1) (q := 127) C dX6_isEntrySign_126 (by decide) rfl ?_
                refine cv_goto (tgt := 131) C dX6_isEntrySign_127 (by decide) ?_
                obtain rfl := Option.some.inj hm
                exact cv_zret C hr hk (cv_bool (Or.inr rfl)) dX6_isEntrySign_131
def fX6_isGood (S : SX6) (a1 : Int32) : Option (Int32) :=
  cv_gd (0 ≤ (a1).toInt ∧ (a1).toInt < 54) <|
  cv_lt (((gX6_page S) (a1).toNatClampNeg)) fun x2 =>
  if a1 = 0 then
    (
    cv_bd (fX6_in ((x2).toInt64) (50 : Int64) (52 : Int64)) fun r4 =>
    cv_gd (r4 = 0 ∨ r4 = 1) <|
    some r4
    )
  else
    (
    if a1 = 1 then
      (
      cv_gd (0 ≤ ((0 : Int32)).toInt ∧ ((0 : Int32)).toInt < 54) <|
      cv_bd (fX6_isRatio (((gX6_page S) ((0 : Int32)).toNatClampNeg) - (48 : Int32)) (x2 - (48 : Int32))) fun r8 =>
      cv_gd (r8 = 0 ∨ r8 = 1) <|
      some r8
      )
    else
      (
      if a1 = 2 then
        (
        if x2 = (59 : Int32) then
          (
          some (1 : Int32)
          )
        else
          (
          some (0 : Int32)
          )
        )
      else
        (
        if a1 = 3 then
          (
          cv_bd (fX6_in ((x2).toInt64) (49 : Int64) (57 : Int64)) fun r13 =>
          cv_gd (r13 = 0 ∨ r13 = 1) <|
          some r13
          )
        else
          (
          if a1 = 4 then
            (
            if x2 = (59 : Int32) then
              (
              some (1 : Int32)
              )
            else
              (
              some (0 : Int32)
              )
            )
          else
            (
            cv_bd (fX6_isEntrySign S a1) fun r17 =>
            cv_gd (r17 = 0 ∨ r17 = 1) <|
            some r17
            )
          )
        )
      )
    )
abbrev rX6_isGood : Room := { frames := 3, cells := 0, slots := 0, locals := 66 }
theorem iX6_isGood_X6 : ∀ w ∈ u_ws RX6 TX6 50, w ∈ wsX6_isGood := fun w h => List.mem_cons_of_mem _ (List.mem_append_right _ h)
set_option maxHeartbeats 4000000 in
set_option maxRecDepth 100000 in
theorem KX6_isGood {l : Launch} {σ : Nat → Nat} {D : va_G} {cy : ClassId} (q : Nat → Nat) (S : SX6) (a1 : Int32) {res : Int32} (hm : fX6_isGood S a1 = some res) : cv_M l yX6_isGood wsX6_isGood rX6_isGood σ D [(cy, .int)] [.ref (q 0), .int a1] (wX6 q cy S) (some (.int res)) (wX6 q cy S) := by
  unfold fX6_isGood at hm
  refine cv_M.of (own := RX6) (by decide +kernel) rfl rfl (lv := [(0, .ref (q 0)), (1, .int a1)]) rfl (Nat.le_of_ble_eq_true rfl) ?_
  intro p e s m args below meth c A C hr hk
  refine cv_aload_n (i := 0) (q := 1) 0 C dX6_isGood_0 rfl rfl rfl ?_
  refine cv_get (q := 4) C iX6_isGood_X6 0 rfl rfl 0 (by decide) (List.mem_of_getElem? (i := 1) rfl) rfl rfl dX6_isGood_1 rfl ?_
  refine cv_iload_n (i := 1) (q := 5) 1 C dX6_isGood_4 rfl rfl rfl ?_
  obtain ⟨g1, hm⟩ := cv_gd_s hm
  refine cv_iald (q := 6) C 1 0 rfl rfl (vp_in_iff.mpr g1) dX6_isGood_5 rfl ?_
  obtain ⟨x2, ex2, hm⟩ := cv_lt_s hm
  refine cv_topi ex2 ?_
  refine cv_istore_n (i := 2) (lv' := [(2, .int x2), (0, .ref (q 0)), (1, .int a1)]) (q := 7) C dX6_isGood_6 rfl (by decide) rfl rfl ?_
  refine cv_iload_n (i := 1) (q := 8) 2 C dX6_isGood_7 rfl rfl rfl ?_
  by_cases h3 : a1 = 0
  · have hm := cv_if_t h3 hm
    refine cv_tin (tgt := 44) 0 C dX6_isGood_8 h3 (by decide) (by decide) rfl (by decide) ?_
    refine cv_iload_n (i := 2) (q := 45) 0 C dX6_isGood_44 rfl rfl rfl ?_
    refine cv_i2l (q := 46) C dX6_isGood_45 rfl ?_
    refine cv_ldc2 (v := 50) (q := 49) C dX6_isGood_46 (List.mem_of_getElem? (i := 2) rfl) rfl ?_
    refine cv_ldc2 (v := 52) (q := 52) C dX6_isGood_49 (List.mem_of_getElem? (i := 3) rfl) rfl ?_
    obtain ⟨r4, hr4, hm⟩ := cv_bd_s hm
    refine cv_goE (q := 55) C (KX6_in (l := l) (σ := σ) (D := D) (cy := cy)     ((x2).toInt64) (50 : Int64) (52 : Int64) hr4) (cv_rs (As := [.long (x2).toInt64, .long (50 : Int64), .long (52 : Int64)]) (st := []) (n := 3) C (KX6_in (l := l) (σ := σ) (D := D) (cy := cy)     ((x2).toInt64) (50 : Int64) (52 : Int64) hr4) gX6_isGood_X6_in rfl ⟨rfl, rfl⟩ (by decide +kernel) rfl ⟨Nat.le_of_ble_eq_true rfl, Nat.le_of_ble_eq_true rfl⟩ rfl (Nat.le_of_ble_eq_true rfl) dX6_isGood_52 ⟨Nat.zero_le _, Nat.zero_le _⟩) rfl ?_
    obtain ⟨g5, hm⟩ := cv_gd_s hm
    obtain rfl := Option.some.inj hm
    exact cv_zret C hr hk (cv_bool g5) dX6_isGood_55
  · have hm := cv_if_f h3 hm
    by_cases h6 : a1 = 1
    · have hm := cv_if_t h6 hm
      refine cv_tin (tgt := 56) 1 C dX6_isGood_8 h6 (by decide) (by decide) rfl (by decide) ?_
      refine cv_aload_n (i := 0) (q := 57) 1 C dX6_isGood_56 rfl rfl rfl ?_
      refine cv_get (q := 60) C iX6_isGood_X6 0 rfl rfl 0 (by decide) (List.mem_of_getElem? (i := 1) rfl) rfl rfl dX6_isGood_57 rfl ?_
      refine cv_iconst (v := 0) (q := 61) C dX6_isGood_60 (by decide) rfl ?_
      obtain ⟨g7, hm⟩ := cv_gd_s hm
      refine cv_iald (q := 62) C 1 0 rfl rfl (vp_in_iff.mpr g7) dX6_isGood_61 rfl ?_
      refine cv_bipush (v := 48) (q := 64) C dX6_isGood_62 (by decide) rfl ?_
      refine cv_isub (q := 65) C dX6_isGood_64 rfl ?_
      refine cv_iload_n (i := 2) (q := 66) 0 C dX6_isGood_65 rfl rfl rfl ?_
      refine cv_bipush (v := 48) (q := 68) C dX6_isGood_66 (by decide) rfl ?_
      refine cv_isub (q := 69) C dX6_isGood_68 rfl ?_
      obtain ⟨r8, hr8, hm⟩ := cv_bd_s hm
      refine cv_goE (q := 72) C (KX6_isRatio (l := l) (σ := σ) (D := D) (cy := cy)     (((gX6_page S) ((0 : Int32)).toNatClampNeg) - (48 : Int32)) (x2 - (48 : Int32)) hr8) (cv_rs (As := [.int (((gX6_page S) ((0 : Int32)).toNatClampNeg) - (48 : Int32)), .int (x2 - (48 : Int32))]) (st := []) (n := 2) C (KX6_isRatio (l := l) (σ := σ) (D := D) (cy := cy)     (((gX6_page S) ((0 : Int32)).toNatClampNeg) - (48 : Int32)) (x2 - (48 : Int32)) hr8) gX6_isGood_X6_isRatio rfl ⟨rfl, rfl⟩ (by decide +kernel) rfl ⟨Nat.le_of_ble_eq_true rfl, Nat.le_of_ble_eq_true rfl⟩ rfl (Nat.le_of_ble_eq_true rfl) dX6_isGood_69 ⟨Nat.zero_le _, Nat.zero_le _⟩) rfl ?_
      obtain ⟨g9, hm⟩ := cv_gd_s hm
      obtain rfl := Option.some.inj hm
      exact cv_zret C hr hk (cv_bool g9) dX6_isGood_72
    · have hm := cv_if_f h6 hm
      by_cases h10 : a1 = 2
      · have hm := cv_if_t h10 hm
        refine cv_tin (tgt := 85) 2 C dX6_isGood_8 h10 (by decide) (by decide) rfl (by decide) ?_
        refine cv_iload_n (i := 2) (q := 86) 0 C dX6_isGood_85 rfl rfl rfl ?_
        refine cv_bipush (v := 59) (q := 88) C dX6_isGood_86 (by decide) rfl ?_
        refine cv_icmp_ne (tgt := 95) (q := 91) C dX6_isGood_88 (by decide) rfl (fun h11 => ?_) (fun h11 => ?_)
        · have hm := cv_if_f h11 hm
          refine cv_iconst (v := 0) (q := 96) C dX6_isGood_95 (by decide) rfl ?_
          obtain rfl := Option.some.inj hm
          exact cv_zret C hr hk (cv_bool (Or.inl rfl)) dX6_isGood_96
        · have hm := cv_if_t h11 hm
          refine cv_iconst (v := 1) (q := 92) C dX6_isGood_91 (by decide) rfl ?_
          refine cv_goto (tgt := 96) C dX6_isGood_92 (by decide) ?_
          obtain rfl := Option.some.inj hm
          exact cv_zret C hr hk (cv_bool (Or.inr rfl)) dX6_isGood_96
      · have hm := cv_if_f h10 hm
        by_cases h12 : a1 = 3
        · have hm := cv_if_t h12 hm
          refine cv_tin (tgt := 73) 3 C dX6_isGood_8 h12 (by decide) (by decide) rfl (by decide) ?_
          refine cv_iload_n (i := 2) (q := 74) 0 C dX6_isGood_73 rfl rfl rfl ?_
          refine cv_i2l (q := 75) C dX6_isGood_74 rfl ?_
          refine cv_ldc2 (v := 49) (q := 78) C dX6_isGood_75 (List.mem_of_getElem? (i := 4) rfl) rfl ?_
          refine cv_ldc2 (v := 57) (q := 81) C dX6_isGood_78 (List.mem_of_getElem? (i := 5) rfl) rfl ?_
          obtain ⟨r13, hr13, hm⟩ := cv_bd_s hm
          refine cv_goE (q := 84) C (KX6_in (l := l) (σ := σ) (D := D) (cy := cy)     ((x2).toInt64) (49 : Int64) (57 : Int64) hr13) (cv_rs (As := [.long (x2).toInt64, .long (49 : Int64), .long (57 : Int64)]) (st := []) (n := 3) C (KX6_in (l := l) (σ := σ) (D := D) (cy := cy)     ((x2).toInt64) (49 : Int64) (57 : Int64) hr13) gX6_isGood_X6_in rfl ⟨rfl, rfl⟩ (by decide +kernel) rfl ⟨Nat.le_of_ble_eq_true rfl, Nat.le_of_ble_eq_true rfl⟩ rfl (Nat.le_of_ble_eq_true rfl) dX6_isGood_81 ⟨Nat.zero_le _, Nat.zero_le _⟩) rfl ?_
          obtain ⟨g14, hm⟩ := cv_gd_s hm
          obtain rfl := Option.some.inj hm
          exact cv_zret C hr hk (cv_bool g14) dX6_isGood_84
        · have hm := cv_if_f h12 hm
          by_cases h15 : a1 = 4
          · have hm := cv_if_t h15 hm
            refine cv_tin (tgt := 85) 4 C dX6_isGood_8 h15 (by decide) (by decide) rfl (by decide) ?_
            refine cv_iload_n (i := 2) (q := 86) 0 C dX6_isGood_85 rfl rfl rfl ?_
            refine cv_bipush (v := 59) (q := 88) C dX6_isGood_86 (by decide) rfl ?_
            refine cv_icmp_ne (tgt := 95) (q := 91) C dX6_isGood_88 (by decide) rfl (fun h16 => ?_) (fun h16 => ?_)
            · have hm := cv_if_f h16 hm
              refine cv_iconst (v := 0) (q := 96) C dX6_isGood_95 (by decide) rfl ?_
              obtain rfl := Option.some.inj hm
              exact cv_zret C hr hk (cv_bool (Or.inl rfl)) dX6_isGood_96
            · have hm := cv_if_t h16 hm
              refine cv_iconst (v := 1) (q := 92) C dX6_isGood_91 (by decide) rfl ?_
              refine cv_goto (tgt := 96) C dX6_isGood_92 (by decide) ?_
              obtain rfl := Option.some.inj hm
              exact cv_zret C hr hk (cv_bool (Or.inr rfl)) dX6_isGood_96
          · have hm := cv_if_f h15 hm
            refine cv_tout (tgt := 97) C dX6_isGood_8 (by have h3t := lv_neT (a := 0) h3 (by decide); have h6t := lv_neT (a := 1) h6 (by decide); have h10t := lv_neT (a := 2) h10 (by decide); have h12t := lv_neT (a := 3) h12 (by decide); have h15t := lv_neT (a := 4) h15 (by decide); omega) (by decide) ?_
            refine cv_aload_n (i := 0) (q := 98) 1 C dX6_isGood_97 rfl rfl rfl ?_
            refine cv_iload_n (i := 1) (q := 99) 2 C dX6_isGood_98 rfl rfl rfl ?_
            obtain ⟨r17, hr17, hm⟩ := cv_bd_s hm
            refine cv_goW (q := 102) C (KX6_isEntrySign (l := l) (σ := σ) (D := D) (cy := cy)  q  S a1 hr17) (cv_rv (As := [.int a1]) (st := []) (n := 1) (q0 := 0) (ci := 6) C (KX6_isEntrySign (l := l) (σ := σ) (D := D) (cy := cy)  q  S a1 hr17) rfl rfl gX6_isGood_X6_isEntrySign rfl ⟨rfl, rfl⟩ (by decide +kernel) rfl ⟨Nat.le_of_ble_eq_true rfl, Nat.le_of_ble_eq_true rfl⟩ rfl (Nat.le_of_ble_eq_true rfl) dX6_isGood_99 ⟨Nat.zero_le _, Nat.zero_le _⟩) rfl ?_
            obtain ⟨g18, hm⟩ := cv_gd_s hm
            obtain rfl := Option.some.inj hm
            exact cv_zret C hr hk (cv_bool g18) dX6_isGood_102
def fX6_faultOf_L2 (S : SX6) : Nat → Int32 → Option (Int32)
  | 0, _ => none
  | n + 1, y1 =>
    if (gX6_pageMany S) ≤ y1 then
      (
      some y1
      )
    else
      (
      cv_bd (fX6_isGood S y1) fun r2 =>
      if r2 = 0 then
        (
        some y1
        )
      else
        (
        cv_lt (y1 + (1 : Int32)) fun x4 =>
        fX6_faultOf_L2 S n x4
        )
      )
def fX6_faultOf (S : SX6) : Option (Int32) :=
  cv_bd (fX6_faultOf_L2 S 256 (0 : Int32)) fun j5 =>
  some j5
abbrev rX6_faultOf : Room := { frames := 4, cells := 0, slots := 0, locals := 88 }
theorem iX6_faultOf_X6 : ∀ w ∈ u_ws RX6 TX6 50, w ∈ wsX6_faultOf := fun w h => List.mem_cons_of_mem _ (List.mem_append_right _ h)
set_option maxHeartbeats 4000000 in
set_option maxRecDepth 100000 in
theorem vX6_faultOf_L2 {p : Program} {l : Launch} {e : Env} {s : State} {m : MethodId} {args : Array Value} {below : List Frame} {meth : Method} {c : Code} {σ : Nat → Nat} {D : va_G} {A : Nat → Prop} {cy : ClassId} (q : Nat → Nat) (S : SX6) (C : cv_C p s m args c cX6_faultOf 2 RX6 wsX6_faultOf σ D [(cy, .int)] A) {Q : State → Prop} {j : Int32} : ∀ (n : Nat) (y1 : Int32), fX6_faultOf_L2 S n y1 = some j → cv_V p l e rX6_faultOf s m args below meth c 2 D A Q 0 0 (wX6 q cy S) 24 [(1, .int j)] [] → cv_V p l e rX6_faultOf s m args below meth c 2 D A Q 0 0 (wX6 q cy S) 2 [(0, .ref (q 0)), (1, .int y1)] [] := by
  intro n
  induction n with
  | zero => intro y1 hm kx; cases hm
  | succ n ih =>
    intro y1 hm kx
    have hm : fX6_faultOf_L2 S (n + 1) y1 = some j := hm
    unfold fX6_faultOf_L2 at hm
    refine cv_iload_n (i := 1) (q := 3) 1 C dX6_faultOf_2 rfl rfl rfl ?_
    refine cv_aload_n (i := 0) (q := 4) 0 C dX6_faultOf_3 rfl rfl rfl ?_
    refine cv_get (q := 7) C iX6_faultOf_X6 0 rfl rfl 1 (by decide) (List.mem_of_getElem? (i := 1) rfl) rfl rfl dX6_faultOf_4 rfl ?_
    refine cv_icmp_ge (tgt := 24) (q := 10) C dX6_faultOf_7 (by decide) rfl (fun h1 => ?_) (fun h1 => ?_)
    · have hm := cv_if_t h1 hm
      obtain rfl := Option.some.inj hm
      refine cv_sub [1] rfl ?_
      exact kx
    · have hm := cv_if_f h1 hm
      refine cv_aload_n (i := 0) (q := 11) 0 C dX6_faultOf_10 rfl rfl rfl ?_
      refine cv_iload_n (i := 1) (q := 12) 1 C dX6_faultOf_11 rfl rfl rfl ?_
      obtain ⟨r2, hr2, hm⟩ := cv_bd_s hm
      refine cv_goW (q := 15) C (KX6_isGood (l := l) (σ := σ) (D := D) (cy := cy)  q  S y1 hr2) (cv_rv (As := [.int y1]) (st := []) (n := 1) (q0 := 0) (ci := 6) C (KX6_isGood (l := l) (σ := σ) (D := D) (cy := cy)  q  S y1 hr2) rfl rfl gX6_faultOf_X6_isGood rfl ⟨rfl, rfl⟩ (by decide +kernel) rfl ⟨Nat.le_of_ble_eq_true rfl, Nat.le_of_ble_eq_true rfl⟩ rfl (Nat.le_of_ble_eq_true rfl) dX6_faultOf_12 ⟨Nat.zero_le _, Nat.zero_le _⟩) rfl ?_
      refine cv_if_eq (tgt := 24) (q := 18) C dX6_faultOf_15 (by decide) rfl (fun h3 => ?_) (fun h3 => ?_)
      · have hm := cv_if_t h3 hm
        obtain rfl := Option.some.inj hm
        refine cv_sub [1] rfl ?_
        exact kx
      · have hm := cv_if_f h3 hm
        obtain ⟨x4, ex4, hm⟩ := cv_lt_s hm
        refine cv_iinc (v := x4) (lv' := [(1, .int x4), (0, .ref (q 0))]) (q := 21) 1 C dX6_faultOf_18 rfl (by rw [ex4]; rfl) (by decide) rfl rfl ?_
        refine cv_goto (tgt := 2) C dX6_faultOf_21 (by decide) ?_
        refine cv_sub [1, 0] rfl ?_
        exact ih x4 hm kx
set_option maxHeartbeats 4000000 in
set_option maxRecDepth 100000 in
theorem KX6_faultOf {l : Launch} {σ : Nat → Nat} {D : va_G} {cy : ClassId} (q : Nat → Nat) (S : SX6) {res : Int32} (hm : fX6_faultOf S = some res) : cv_M l yX6_faultOf wsX6_faultOf rX6_faultOf σ D [(cy, .int)] [.ref (q 0)] (wX6 q cy S) (some (.int res)) (wX6 q cy S) := by
  unfold fX6_faultOf at hm
  refine cv_M.of (own := RX6) (by decide +kernel) rfl rfl (lv := [(0, .ref (q 0))]) rfl (Nat.le_of_ble_eq_true rfl) ?_
  intro p e s m args below meth c A C hr hk
  refine cv_iconst (v := 0) (q := 1) C dX6_faultOf_0 (by decide) rfl ?_
  refine cv_istore_n (i := 1) (lv' := [(1, .int (0 : Int32)), (0, .ref (q 0))]) (q := 2) C dX6_faultOf_1 rfl (by decide) rfl rfl ?_
  obtain ⟨j5, hj5, hm⟩ := cv_bd_s hm
  refine cv_cut (ws' := (wX6 q cy S)) (pc' := 24) (lv' := [(1, .int j5)]) (st' := []) ?_ (fun K6 => ?_)
  · refine cv_iload_n (i := 1) (q := 25) 0 C dX6_faultOf_24 rfl rfl rfl ?_
    obtain rfl := Option.some.inj hm
    exact cv_iret C hr hk dX6_faultOf_25
  · refine cv_sub [1, 0] rfl ?_
    exact vX6_faultOf_L2 q S C 256 (0 : Int32) hj5 K6
def fX6_fault (S : SX6) : Option (Int32) :=
  cv_bd (fX6_faultOf S) fun r1 =>
  some r1
abbrev rX6_fault : Room := { frames := 5, cells := 0, slots := 0, locals := 109 }
set_option maxHeartbeats 4000000 in
set_option maxRecDepth 100000 in
theorem KX6_fault {l : Launch} {σ : Nat → Nat} {D : va_G} {cy : ClassId} (q : Nat → Nat) (S : SX6) {res : Int32} (hm : fX6_fault S = some res) : cv_M l yX6_fault wsX6_fault rX6_fault σ D [(cy, .int)] [.ref (q 0)] (wX6 q cy S) (some (.int res)) (wX6 q cy S) := by
  unfold fX6_fault at hm
  refine cv_M.of (own := RX6) (by decide +kernel) rfl rfl (lv := [(0, .ref (q 0))]) rfl (Nat.le_of_ble_eq_true rfl) ?_
  intro p e s m args below meth c A C hr hk
  refine cv_aload_n (i := 0) (q := 1) 0 C dX6_fault_0 rfl rfl rfl ?_
  obtain ⟨r1, hr1, hm⟩ := cv_bd_s hm
  refine cv_goW (q := 4) C (KX6_faultOf (l := l) (σ := σ) (D := D) (cy := cy)  q  S  hr1) (cv_rv (As := []) (st := []) (n := 0) (q0 := 0) (ci := 6) C (KX6_faultOf (l := l) (σ := σ) (D := D) (cy := cy)  q  S  hr1) rfl rfl gX6_fault_X6_faultOf rfl ⟨rfl, rfl⟩ (by decide +kernel) rfl ⟨Nat.le_of_ble_eq_true rfl, Nat.le_of_ble_eq_true rfl⟩ rfl (Nat.le_of_ble_eq_true rfl) dX6_fault_1 ⟨Nat.zero_le _, Nat.zero_le _⟩) rfl ?_
  obtain rfl := Option.some.inj hm
  exact cv_iret C hr hk dX6_fault_4
def fX6_a (S : SX6) (a1 : Int32) : Option (Int32) :=
  if a1 = 0 then
    (
    some (gX6_ratioA S)
    )
  else
    (
    some (gX6_thenA S)
    )
abbrev rX6_a : Room := { frames := 0, cells := 0, slots := 0, locals := 0 }
theorem iX6_a_X6 : ∀ w ∈ u_ws RX6 TX6 50, w ∈ wsX6_a := fun w h => List.mem_cons_of_mem _ (List.mem_append_right _ h)
set_option maxHeartbeats 4000000 in
set_option maxRecDepth 100000 in
theorem KX6_a {l : Launch} {σ : Nat → Nat} {D : va_G} {cy : ClassId} (q : Nat → Nat) (S : SX6) (a1 : Int32) {res : Int32} (hm : fX6_a S a1 = some res) : cv_M l yX6_a wsX6_a rX6_a σ D [(cy, .int)] [.ref (q 0), .int a1] (wX6 q cy S) (some (.int res)) (wX6 q cy S) := by
  unfold fX6_a at hm
  refine cv_M.of (own := RX6) (by decide +kernel) rfl rfl (lv := [(0, .ref (q 0)), (1, .int a1)]) rfl (Nat.le_of_ble_eq_true rfl) ?_
  intro p e s m args below meth c A C hr hk
  refine cv_iload_n (i := 1) (q := 1) 1 C dX6_a_0 rfl rfl rfl ?_
  refine cv_if_ne (tgt := 11) (q := 4) C dX6_a_1 (by decide) rfl (fun h1 => ?_) (fun h1 => ?_)
  · have hm := cv_if_f h1 hm
    refine cv_aload_n (i := 0) (q := 12) 0 C dX6_a_11 rfl rfl rfl ?_
    refine cv_get (q := 15) C iX6_a_X6 0 rfl rfl 16 (by decide) (List.mem_of_getElem? (i := 2) rfl) rfl rfl dX6_a_12 rfl ?_
    obtain rfl := Option.some.inj hm
    exact cv_iret C hr hk dX6_a_15
  · have hm := cv_if_t h1 hm
    refine cv_aload_n (i := 0) (q := 5) 0 C dX6_a_4 rfl rfl rfl ?_
    refine cv_get (q := 8) C iX6_a_X6 0 rfl rfl 14 (by decide) (List.mem_of_getElem? (i := 1) rfl) rfl rfl dX6_a_5 rfl ?_
    refine cv_goto (tgt := 15) C dX6_a_8 (by decide) ?_
    obtain rfl := Option.some.inj hm
    exact cv_iret C hr hk dX6_a_15
def fX6_b (S : SX6) (a1 : Int32) : Option (Int32) :=
  if a1 = 0 then
    (
    some (gX6_ratioB S)
    )
  else
    (
    some (gX6_thenB S)
    )
abbrev rX6_b : Room := { frames := 0, cells := 0, slots := 0, locals := 0 }
theorem iX6_b_X6 : ∀ w ∈ u_ws RX6 TX6 50, w ∈ wsX6_b := fun w h => List.mem_cons_of_mem _ (List.mem_append_right _ h)
set_option maxHeartbeats 4000000 in
set_option maxRecDepth 100000 in
theorem KX6_b {l : Launch} {σ : Nat → Nat} {D : va_G} {cy : ClassId} (q : Nat → Nat) (S : SX6) (a1 : Int32) {res : Int32} (hm : fX6_b S a1 = some res) : cv_M l yX6_b wsX6_b rX6_b σ D [(cy, .int)] [.ref (q 0), .int a1] (wX6 q cy S) (some (.int res)) (wX6 q cy S) := by
  unfold fX6_b at hm
  refine cv_M.of (own := RX6) (by decide +kernel) rfl rfl (lv := [(0, .ref (q 0)), (1, .int a1)]) rfl (Nat.le_of_ble_eq_true rfl) ?_
  intro p e s m args below meth c A C hr hk
  refine cv_iload_n (i := 1) (q := 1) 1 C dX6_b_0 rfl rfl rfl ?_
  refine cv_if_ne (tgt := 11) (q := 4) C dX6_b_1 (by decide) rfl (fun h1 => ?_) (fun h1 => ?_)
  · have hm := cv_if_f h1 hm
    refine cv_aload_n (i := 0) (q := 12) 0 C dX6_b_11 rfl rfl rfl ?_
    refine cv_get (q := 15) C iX6_b_X6 0 rfl rfl 17 (by decide) (List.mem_of_getElem? (i := 2) rfl) rfl rfl dX6_b_12 rfl ?_
    obtain rfl := Option.some.inj hm
    exact cv_iret C hr hk dX6_b_15
  · have hm := cv_if_t h1 hm
    refine cv_aload_n (i := 0) (q := 5) 0 C dX6_b_4 rfl rfl rfl ?_
    refine cv_get (q := 8) C iX6_b_X6 0 rfl rfl 15 (by decide) (List.mem_of_getElem? (i := 1) rfl) rfl rfl dX6_b_5 rfl ?_
    refine cv_goto (tgt := 15) C dX6_b_8 (by decide) ?_
    obtain rfl := Option.some.inj hm
    exact cv_iret C hr hk dX6_b_15
def fX6_empty_L2 (u1 : Int32) : Nat → Int32 → SX6 → Option (SX6)
  | 0, _, _ => none
  | n + 1, y2, S =>
    if (100 : Int32) ≤ y2 then
      (
      some S
      )
    else
      (
      cv_gd (0 ≤ ((((100 : Int32) * u1) + y2)).toInt ∧ ((((100 : Int32) * u1) + y2)).toInt < 200) <|
      cv_lt (sX6_there S (upd (gX6_there S) ((((100 : Int32) * u1) + y2)).toNatClampNeg (0 : Int32))) fun s3 =>
      cv_lt (y2 + (1 : Int32)) fun x4 =>
      fX6_empty_L2 u1 n x4 s3
      )
def fX6_empty (S : SX6) (a1 : Int32) : Option (SX6) :=
  cv_bd (fX6_empty_L2 a1 256 (0 : Int32) S) fun j5 =>
  cv_gd (0 ≤ (a1).toInt ∧ (a1).toInt < 2) <|
  cv_lt (sX6_root j5 (upd (gX6_root j5) (a1).toNatClampNeg (-1 : Int32))) fun s8 =>
  cv_gd (0 ≤ (a1).toInt ∧ (a1).toInt < 2) <|
  cv_lt (sX6_many s8 (upd (gX6_many s8) (a1).toNatClampNeg (0 : Int32))) fun s10 =>
  cv_gd (0 ≤ (a1).toInt ∧ (a1).toInt < 2) <|
  cv_lt (sX6_most s10 (upd (gX6_most s10) (a1).toNatClampNeg (0 : Int32))) fun s12 =>
  cv_gd (0 ≤ (a1).toInt ∧ (a1).toInt < 2) <|
  cv_lt (sX6_built s12 (upd (gX6_built s12) (a1).toNatClampNeg (0 : Int32))) fun s14 =>
  cv_gd (0 ≤ (a1).toInt ∧ (a1).toInt < 2) <|
  cv_lt (sX6_cost s14 (upd (gX6_cost s14) (a1).toNatClampNeg (0 : Int32))) fun s16 =>
  some s16
abbrev rX6_empty : Room := { frames := 0, cells := 0, slots := 0, locals := 0 }
theorem iX6_empty_X6 : ∀ w ∈ u_ws RX6 TX6 50, w ∈ wsX6_empty := fun w h => List.mem_cons_of_mem _ (List.mem_append_right _ h)
set_option maxHeartbeats 4000000 in
set_option maxRecDepth 100000 in
theorem vX6_empty_L2 {p : Program} {l : Launch} {e : Env} {s : State} {m : MethodId} {args : Array Value} {below : List Frame} {meth : Method} {c : Code} {σ : Nat → Nat} {D : va_G} {A : Nat → Prop} {cy : ClassId} (q : Nat → Nat) (u1 : Int32) (C : cv_C p s m args c cX6_empty 3 RX6 wsX6_empty σ D [(cy, .int)] A) {Q : State → Prop} {j : SX6} : ∀ (n : Nat) (y2 : Int32) (S : SX6), fX6_empty_L2 u1 n y2 S = some j → cv_V p l e rX6_empty s m args below meth c 3 D A Q 0 0 (wX6 q cy j) 26 [(0, .ref (q 0)), (1, .int u1)] [] → cv_V p l e rX6_empty s m args below meth c 3 D A Q 0 0 (wX6 q cy S) 2 [(0, .ref (q 0)), (1, .int u1), (2, .int y2)] [] := by
  intro n
  induction n with
  | zero => intro y2 S hm kx; cases hm
  | succ n ih =>
    intro y2 S hm kx
    have hm : fX6_empty_L2 u1 (n + 1) y2 S = some j := hm
    unfold fX6_empty_L2 at hm
    refine cv_iload_n (i := 2) (q := 3) 2 C dX6_empty_2 rfl rfl rfl ?_
    refine cv_bipush (v := 100) (q := 5) C dX6_empty_3 (by decide) rfl ?_
    refine cv_icmp_ge (tgt := 26) (q := 8) C dX6_empty_5 (by decide) rfl (fun h1 => ?_) (fun h1 => ?_)
    · have hm := cv_if_t h1 hm
      obtain rfl := Option.some.inj hm
      refine cv_sub [0, 1] rfl ?_
      exact kx
    · have hm := cv_if_f h1 hm
      refine cv_aload_n (i := 0) (q := 9) 0 C dX6_empty_8 rfl rfl rfl ?_
      refine cv_get (q := 12) C iX6_empty_X6 0 rfl rfl 5 (by decide) (List.mem_of_getElem? (i := 1) rfl) rfl rfl dX6_empty_9 rfl ?_
      refine cv_bipush (v := 100) (q := 14) C dX6_empty_12 (by decide) rfl ?_
      refine cv_iload_n (i := 1) (q := 15) 1 C dX6_empty_14 rfl rfl rfl ?_
      refine cv_imul (q := 16) C dX6_empty_15 rfl ?_
      refine cv_iload_n (i := 2) (q := 17) 2 C dX6_empty_16 rfl rfl rfl ?_
      refine cv_iadd (q := 18) C dX6_empty_17 rfl ?_
      refine cv_iconst (v := 0) (q := 19) C dX6_empty_18 (by decide) rfl ?_
      obtain ⟨g2, hm⟩ := cv_gd_s hm
      obtain ⟨s3, es3, hm⟩ := cv_lt_s hm
      refine cv_iast (q := 20) (ws' := (wX6 q cy s3)) C 5 0 rfl rfl (vp_in_iff.mpr g2) dX6_empty_19 rfl (by rw [es3]; rfl) ?_
      obtain ⟨x4, ex4, hm⟩ := cv_lt_s hm
      refine cv_iinc (v := x4) (lv' := [(2, .int x4), (0, .ref (q 0)), (1, .int u1)]) (q := 23) 2 C dX6_empty_20 rfl (by rw [ex4]; rfl) (by decide) rfl rfl ?_
      refine cv_goto (tgt := 2) C dX6_empty_23 (by decide) ?_
      refine cv_sub [1, 2, 0] rfl ?_
      exact ih x4 s3 hm kx
set_option maxHeartbeats 4000000 in
set_option maxRecDepth 100000 in
theorem KX6_empty {l : Launch} {σ : Nat → Nat} {D : va_G} {cy : ClassId} (q : Nat → Nat) (S : SX6) (a1 : Int32) {res : SX6} (hm : fX6_empty S a1 = some res) : cv_M l yX6_empty wsX6_empty rX6_empty σ D [(cy, .int)] [.ref (q 0), .int a1] (wX6 q cy S) none (wX6 q cy res) := by
  unfold fX6_empty at hm
  refine cv_M.of (own := RX6) (by decide +kernel) rfl rfl (lv := [(0, .ref (q 0)), (1, .int a1)]) rfl (Nat.le_of_ble_eq_true rfl) ?_
  intro p e s m args below meth c A C hr hk
  refine cv_iconst (v := 0) (q := 1) C dX6_empty_0 (by decide) rfl ?_
  refine cv_istore_n (i := 2) (lv' := [(2, .int (0 : Int32)), (0, .ref (q 0)), (1, .int a1)]) (q := 2) C dX6_empty_1 rfl (by decide) rfl rfl ?_
  obtain ⟨j5, hj5, hm⟩ := cv_bd_s hm
  refine cv_cut (ws' := (wX6 q cy j5)) (pc' := 26) (lv' := [(0, .ref (q 0)), (1, .int a1)]) (st' := []) ?_ (fun K6 => ?_)
  · refine cv_aload_n (i := 0) (q := 27) 0 C dX6_empty_26 rfl rfl rfl ?_
    refine cv_get (q := 30) C iX6_empty_X6 0 rfl rfl 6 (by decide) (List.mem_of_getElem? (i := 2) rfl) rfl rfl dX6_empty_27 rfl ?_
    refine cv_iload_n (i := 1) (q := 31) 1 C dX6_empty_30 rfl rfl rfl ?_
    refine cv_iconst (v := -1) (q := 32) C dX6_empty_31 (by decide) rfl ?_
    obtain ⟨g7, hm⟩ := cv_gd_s hm
    obtain ⟨s8, es8, hm⟩ := cv_lt_s hm
    refine cv_iast (q := 33) (ws' := (wX6 q cy s8)) C 6 0 rfl rfl (vp_in_iff.mpr g7) dX6_empty_32 rfl (by rw [es8]; rfl) ?_
    refine cv_aload_n (i := 0) (q := 34) 0 C dX6_empty_33 rfl rfl rfl ?_
    refine cv_get (q := 37) C iX6_empty_X6 0 rfl rfl 7 (by decide) (List.mem_of_getElem? (i := 3) rfl) rfl rfl dX6_empty_34 rfl ?_
    refine cv_iload_n (i := 1) (q := 38) 1 C dX6_empty_37 rfl rfl rfl ?_
    refine cv_iconst (v := 0) (q := 39) C dX6_empty_38 (by decide) rfl ?_
    obtain ⟨g9, hm⟩ := cv_gd_s hm
    obtain ⟨s10, es10, hm⟩ := cv_lt_s hm
    refine cv_iast (q := 40) (ws' := (wX6 q cy s10)) C 7 0 rfl rfl (vp_in_iff.mpr g9) dX6_empty_39 rfl (by rw [es10]; rfl) ?_
    refine cv_aload_n (i := 0) (q := 41) 0 C dX6_empty_40 rfl rfl rfl ?_
    refine cv_get (q := 44) C iX6_empty_X6 0 rfl rfl 8 (by decide) (List.mem_of_getElem? (i := 4) rfl) rfl rfl dX6_empty_41 rfl ?_
    refine cv_iload_n (i := 1) (q := 45) 1 C dX6_empty_44 rfl rfl rfl ?_
    refine cv_iconst (v := 0) (q := 46) C dX6_empty_45 (by decide) rfl ?_
    obtain ⟨g11, hm⟩ := cv_gd_s hm
    obtain ⟨s12, es12, hm⟩ := cv_lt_s hm
    refine cv_iast (q := 47) (ws' := (wX6 q cy s12)) C 8 0 rfl rfl (vp_in_iff.mpr g11) dX6_empty_46 rfl (by rw [es12]; rfl) ?_
    refine cv_aload_n (i := 0) (q := 48) 0 C dX6_empty_47 rfl rfl rfl ?_
    refine cv_get (q := 51) C iX6_empty_X6 0 rfl rfl 10 (by decide) (List.mem_of_getElem? (i := 5) rfl) rfl rfl dX6_empty_48 rfl ?_
    refine cv_iload_n (i := 1) (q := 52) 1 C dX6_empty_51 rfl rfl rfl ?_
    refine cv_iconst (v := 0) (q := 53) C dX6_empty_52 (by decide) rfl ?_
    obtain ⟨g13, hm⟩ := cv_gd_s hm
    obtain ⟨s14, es14, hm⟩ := cv_lt_s hm
    refine cv_iast (q := 54) (ws' := (wX6 q cy s14)) C 9 0 rfl rfl (vp_in_iff.mpr g13) dX6_empty_53 rfl (by rw [es14]; rfl) ?_
    refine cv_aload_n (i := 0) (q := 55) 0 C dX6_empty_54 rfl rfl rfl ?_
    refine cv_get (q := 58) C iX6_empty_X6 0 rfl rfl 11 (by decide) (List.mem_of_getElem? (i := 6) rfl) rfl rfl dX6_empty_55 rfl ?_
    refine cv_iload_n (i := 1) (q := 59) 1 C dX6_empty_58 rfl rfl rfl ?_
    refine cv_iconst (v := 0) (q := 60) C dX6_empty_59 (by decide) rfl ?_
    obtain ⟨g15, hm⟩ := cv_gd_s hm
    obtain ⟨s16, es16, hm⟩ := cv_lt_s hm
    refine cv_iast (q := 61) (ws' := (wX6 q cy s16)) C 10 0 rfl rfl (vp_in_iff.mpr g15) dX6_empty_60 rfl (by rw [es16]; rfl) ?_
    obtain rfl := Option.some.inj hm
    exact cv_vret C hr hk dX6_empty_61
  · refine cv_sub [1, 2, 0] rfl ?_
    exact vX6_empty_L2 q a1 C 256 (0 : Int32) S hj5 K6
def fX6_begin_L2  : Nat → Int32 → SX6 → Option (SX6)
  | 0, _, _ => none
  | n + 1, y1, S =>
    if (100 : Int32) ≤ y1 then
      (
      some S
      )
    else
      (
      cv_gd (0 ≤ (y1).toInt ∧ (y1).toInt < 200) <|
      cv_gd (0 ≤ (((100 : Int32) + y1)).toInt ∧ (((100 : Int32) + y1)).toInt < 200) <|
      cv_lt (sX6_left S (upd (gX6_left S) (((100 : Int32) + y1)).toNatClampNeg ((gX6_left S) (y1).toNatClampNeg))) fun s4 =>
      cv_gd (0 ≤ (y1).toInt ∧ (y1).toInt < 200) <|
      cv_gd (0 ≤ (((100 : Int32) + y1)).toInt ∧ (((100 : Int32) + y1)).toInt < 200) <|
      cv_lt (sX6_right s4 (upd (gX6_right s4) (((100 : Int32) + y1)).toNatClampNeg ((gX6_right s4) (y1).toNatClampNeg))) fun s7 =>
      cv_gd (0 ≤ (y1).toInt ∧ (y1).toInt < 200) <|
      cv_gd (0 ≤ (((100 : Int32) + y1)).toInt ∧ (((100 : Int32) + y1)).toInt < 200) <|
      cv_lt (sX6_above s7 (upd (gX6_above s7) (((100 : Int32) + y1)).toNatClampNeg ((gX6_above s7) (y1).toNatClampNeg))) fun s10 =>
      cv_gd (0 ≤ (y1).toInt ∧ (y1).toInt < 200) <|
      cv_gd (0 ≤ (((100 : Int32) + y1)).toInt ∧ (((100 : Int32) + y1)).toInt < 200) <|
      cv_lt (sX6_there s10 (upd (gX6_there s10) (((100 : Int32) + y1)).toNatClampNeg ((gX6_there s10) (y1).toNatClampNeg))) fun s13 =>
      cv_lt (y1 + (1 : Int32)) fun x14 =>
      fX6_begin_L2 n x14 s13
      )
def fX6_begin (S : SX6) : Option (SX6) :=
  cv_bd (fX6_begin_L2 256 (0 : Int32) S) fun j15 =>
  cv_gd (0 ≤ ((0 : Int32)).toInt ∧ ((0 : Int32)).toInt < 2) <|
  cv_gd (0 ≤ ((1 : Int32)).toInt ∧ ((1 : Int32)).toInt < 2) <|
  cv_lt (sX6_root j15 (upd (gX6_root j15) ((1 : Int32)).toNatClampNeg ((gX6_root j15) ((0 : Int32)).toNatClampNeg))) fun s19 =>
  cv_gd (0 ≤ ((0 : Int32)).toInt ∧ ((0 : Int32)).toInt < 2) <|
  cv_gd (0 ≤ ((1 : Int32)).toInt ∧ ((1 : Int32)).toInt < 2) <|
  cv_lt (sX6_many s19 (upd (gX6_many s19) ((1 : Int32)).toNatClampNeg ((gX6_many s19) ((0 : Int32)).toNatClampNeg))) fun s22 =>
  cv_gd (0 ≤ ((0 : Int32)).toInt ∧ ((0 : Int32)).toInt < 2) <|
  cv_gd (0 ≤ ((1 : Int32)).toInt ∧ ((1 : Int32)).toInt < 2) <|
  cv_lt (sX6_most s22 (upd (gX6_most s22) ((1 : Int32)).toNatClampNeg ((gX6_most s22) ((0 : Int32)).toNatClampNeg))) fun s25 =>
  cv_gd (0 ≤ ((1 : Int32)).toInt ∧ ((1 : Int32)).toInt < 2) <|
  cv_lt (sX6_built s25 (upd (gX6_built s25) ((1 : Int32)).toNatClampNeg (0 : Int32))) fun s27 =>
  cv_gd (0 ≤ ((1 : Int32)).toInt ∧ ((1 : Int32)).toInt < 2) <|
  cv_lt (sX6_cost s27 (upd (gX6_cost s27) ((1 : Int32)).toNatClampNeg (0 : Int32))) fun s29 =>
  cv_lt (sX6_thenA s29 (gX6_ratioA s29)) fun s30 =>
  cv_lt (sX6_thenB s30 (gX6_ratioB s30)) fun s31 =>
  some s31
abbrev rX6_begin : Room := { frames := 0, cells := 0, slots := 0, locals := 0 }
theorem iX6_begin_X6 : ∀ w ∈ u_ws RX6 TX6 50, w ∈ wsX6_begin := fun w h => List.mem_cons_of_mem _ (List.mem_append_right _ h)
set_option maxHeartbeats 4000000 in
set_option maxRecDepth 100000 in
theorem vX6_begin_L2 {p : Program} {l : Launch} {e : Env} {s : State} {m : MethodId} {args : Array Value} {below : List Frame} {meth : Method} {c : Code} {σ : Nat → Nat} {D : va_G} {A : Nat → Prop} {cy : ClassId} (q : Nat → Nat) (C : cv_C p s m args c cX6_begin 2 RX6 wsX6_begin σ D [(cy, .int)] A) {Q : State → Prop} {j : SX6} : ∀ (n : Nat) (y1 : Int32) (S : SX6), fX6_begin_L2 n y1 S = some j → cv_V p l e rX6_begin s m args below meth c 2 D A Q 0 0 (wX6 q cy j) 74 [(0, .ref (q 0))] [] → cv_V p l e rX6_begin s m args below meth c 2 D A Q 0 0 (wX6 q cy S) 2 [(0, .ref (q 0)), (1, .int y1)] [] := by
  intro n
  induction n with
  | zero => intro y1 S hm kx; cases hm
  | succ n ih =>
    intro y1 S hm kx
    have hm : fX6_begin_L2 (n + 1) y1 S = some j := hm
    unfold fX6_begin_L2 at hm
    refine cv_iload_n (i := 1) (q := 3) 1 C dX6_begin_2 rfl rfl rfl ?_
    refine cv_bipush (v := 100) (q := 5) C dX6_begin_3 (by decide) rfl ?_
    refine cv_icmp_ge (tgt := 74) (q := 8) C dX6_begin_5 (by decide) rfl (fun h1 => ?_) (fun h1 => ?_)
    · have hm := cv_if_t h1 hm
      obtain rfl := Option.some.inj hm
      refine cv_sub [0] rfl ?_
      exact kx
    · have hm := cv_if_f h1 hm
      refine cv_aload_n (i := 0) (q := 9) 0 C dX6_begin_8 rfl rfl rfl ?_
      refine cv_get (q := 12) C iX6_begin_X6 0 rfl rfl 2 (by decide) (List.mem_of_getElem? (i := 1) rfl) rfl rfl dX6_begin_9 rfl ?_
      refine cv_bipush (v := 100) (q := 14) C dX6_begin_12 (by decide) rfl ?_
      refine cv_iload_n (i := 1) (q := 15) 1 C dX6_begin_14 rfl rfl rfl ?_
      refine cv_iadd (q := 16) C dX6_begin_15 rfl ?_
      refine cv_aload_n (i := 0) (q := 17) 0 C dX6_begin_16 rfl rfl rfl ?_
      refine cv_get (q := 20) C iX6_begin_X6 0 rfl rfl 2 (by decide) (List.mem_of_getElem? (i := 1) rfl) rfl rfl dX6_begin_17 rfl ?_
      refine cv_iload_n (i := 1) (q := 21) 1 C dX6_begin_20 rfl rfl rfl ?_
      obtain ⟨g2, hm⟩ := cv_gd_s hm
      refine cv_iald (q := 22) C 2 0 rfl rfl (vp_in_iff.mpr g2) dX6_begin_21 rfl ?_
      obtain ⟨g3, hm⟩ := cv_gd_s hm
      obtain ⟨s4, es4, hm⟩ := cv_lt_s hm
      refine cv_iast (q := 23) (ws' := (wX6 q cy s4)) C 2 0 rfl rfl (vp_in_iff.mpr g3) dX6_begin_22 rfl (by rw [es4]; rfl) ?_
      refine cv_aload_n (i := 0) (q := 24) 0 C dX6_begin_23 rfl rfl rfl ?_
      refine cv_get (q := 27) C iX6_begin_X6 0 rfl rfl 3 (by decide) (List.mem_of_getElem? (i := 2) rfl) rfl rfl dX6_begin_24 rfl ?_
      refine cv_bipush (v := 100) (q := 29) C dX6_begin_27 (by decide) rfl ?_
      refine cv_iload_n (i := 1) (q := 30) 1 C dX6_begin_29 rfl rfl rfl ?_
      refine cv_iadd (q := 31) C dX6_begin_30 rfl ?_
      refine cv_aload_n (i := 0) (q := 32) 0 C dX6_begin_31 rfl rfl rfl ?_
      refine cv_get (q := 35) C iX6_begin_X6 0 rfl rfl 3 (by decide) (List.mem_of_getElem? (i := 2) rfl) rfl rfl dX6_begin_32 rfl ?_
      refine cv_iload_n (i := 1) (q := 36) 1 C dX6_begin_35 rfl rfl rfl ?_
      obtain ⟨g5, hm⟩ := cv_gd_s hm
      refine cv_iald (q := 37) C 3 0 rfl rfl (vp_in_iff.mpr g5) dX6_begin_36 rfl ?_
      obtain ⟨g6, hm⟩ := cv_gd_s hm
      obtain ⟨s7, es7, hm⟩ := cv_lt_s hm
      refine cv_iast (q := 38) (ws' := (wX6 q cy s7)) C 3 0 rfl rfl (vp_in_iff.mpr g6) dX6_begin_37 rfl (by rw [es7]; rfl) ?_
      refine cv_aload_n (i := 0) (q := 39) 0 C dX6_begin_38 rfl rfl rfl ?_
      refine cv_get (q := 42) C iX6_begin_X6 0 rfl rfl 4 (by decide) (List.mem_of_getElem? (i := 3) rfl) rfl rfl dX6_begin_39 rfl ?_
      refine cv_bipush (v := 100) (q := 44) C dX6_begin_42 (by decide) rfl ?_
      refine cv_iload_n (i := 1) (q := 45) 1 C dX6_begin_44 rfl rfl rfl ?_
      refine cv_iadd (q := 46) C dX6_begin_45 rfl ?_
      refine cv_aload_n (i := 0) (q := 47) 0 C dX6_begin_46 rfl rfl rfl ?_
      refine cv_get (q := 50) C iX6_begin_X6 0 rfl rfl 4 (by decide) (List.mem_of_getElem? (i := 3) rfl) rfl rfl dX6_begin_47 rfl ?_
      refine cv_iload_n (i := 1) (q := 51) 1 C dX6_begin_50 rfl rfl rfl ?_
      obtain ⟨g8, hm⟩ := cv_gd_s hm
      refine cv_iald (q := 52) C 4 0 rfl rfl (vp_in_iff.mpr g8) dX6_begin_51 rfl ?_
      obtain ⟨g9, hm⟩ := cv_gd_s hm
      obtain ⟨s10, es10, hm⟩ := cv_lt_s hm
      refine cv_iast (q := 53) (ws' := (wX6 q cy s10)) C 4 0 rfl rfl (vp_in_iff.mpr g9) dX6_begin_52 rfl (by rw [es10]; rfl) ?_
      refine cv_aload_n (i := 0) (q := 54) 0 C dX6_begin_53 rfl rfl rfl ?_
      refine cv_get (q := 57) C iX6_begin_X6 0 rfl rfl 5 (by decide) (List.mem_of_getElem? (i := 4) rfl) rfl rfl dX6_begin_54 rfl ?_
      refine cv_bipush (v := 100) (q := 59) C dX6_begin_57 (by decide) rfl ?_
      refine cv_iload_n (i := 1) (q := 60) 1 C dX6_begin_59 rfl rfl rfl ?_
      refine cv_iadd (q := 61) C dX6_begin_60 rfl ?_
      refine cv_aload_n (i := 0) (q := 62) 0 C dX6_begin_61 rfl rfl rfl ?_
      refine cv_get (q := 65) C iX6_begin_X6 0 rfl rfl 5 (by decide) (List.mem_of_getElem? (i := 4) rfl) rfl rfl dX6_begin_62 rfl ?_
      refine cv_iload_n (i := 1) (q := 66) 1 C dX6_begin_65 rfl rfl rfl ?_
      obtain ⟨g11, hm⟩ := cv_gd_s hm
      refine cv_iald (q := 67) C 5 0 rfl rfl (vp_in_iff.mpr g11) dX6_begin_66 rfl ?_
      obtain ⟨g12, hm⟩ := cv_gd_s hm
      obtain ⟨s13, es13, hm⟩ := cv_lt_s hm
      refine cv_iast (q := 68) (ws' := (wX6 q cy s13)) C 5 0 rfl rfl (vp_in_iff.mpr g12) dX6_begin_67 rfl (by rw [es13]; rfl) ?_
      obtain ⟨x14, ex14, hm⟩ := cv_lt_s hm
      refine cv_iinc (v := x14) (lv' := [(1, .int x14), (0, .ref (q 0))]) (q := 71) 1 C dX6_begin_68 rfl (by rw [ex14]; rfl) (by decide) rfl rfl ?_
      refine cv_goto (tgt := 2) C dX6_begin_71 (by decide) ?_
      refine cv_sub [1, 0] rfl ?_
      exact ih x14 s13 hm kx
set_option maxHeartbeats 4000000 in
set_option maxRecDepth 100000 in
theorem KX6_begin {l : Launch} {σ : Nat → Nat} {D : va_G} {cy : ClassId} (q : Nat → Nat) (S : SX6) {res : SX6} (hm : fX6_begin S = some res) : cv_M l yX6_begin wsX6_begin rX6_begin σ D [(cy, .int)] [.ref (q 0)] (wX6 q cy S) none (wX6 q cy res) := by
  unfold fX6_begin at hm
  refine cv_M.of (own := RX6) (by decide +kernel) rfl rfl (lv := [(0, .ref (q 0))]) rfl (Nat.le_of_ble_eq_true rfl) ?_
  intro p e s m args below meth c A C hr hk
  refine cv_iconst (v := 0) (q := 1) C dX6_begin_0 (by decide) rfl ?_
  refine cv_istore_n (i := 1) (lv' := [(1, .int (0 : Int32)), (0, .ref (q 0))]) (q := 2) C dX6_begin_1 rfl (by decide) rfl rfl ?_
  obtain ⟨j15, hj15, hm⟩ := cv_bd_s hm
  refine cv_cut (ws' := (wX6 q cy j15)) (pc' := 74) (lv' := [(0, .ref (q 0))]) (st' := []) ?_ (fun K16 => ?_)
  · refine cv_aload_n (i := 0) (q := 75) 0 C dX6_begin_74 rfl rfl rfl ?_
    refine cv_get (q := 78) C iX6_begin_X6 0 rfl rfl 6 (by decide) (List.mem_of_getElem? (i := 5) rfl) rfl rfl dX6_begin_75 rfl ?_
    refine cv_iconst (v := 1) (q := 79) C dX6_begin_78 (by decide) rfl ?_
    refine cv_aload_n (i := 0) (q := 80) 0 C dX6_begin_79 rfl rfl rfl ?_
    refine cv_get (q := 83) C iX6_begin_X6 0 rfl rfl 6 (by decide) (List.mem_of_getElem? (i := 5) rfl) rfl rfl dX6_begin_80 rfl ?_
    refine cv_iconst (v := 0) (q := 84) C dX6_begin_83 (by decide) rfl ?_
    obtain ⟨g17, hm⟩ := cv_gd_s hm
    refine cv_iald (q := 85) C 6 0 rfl rfl (vp_in_iff.mpr g17) dX6_begin_84 rfl ?_
    obtain ⟨g18, hm⟩ := cv_gd_s hm
    obtain ⟨s19, es19, hm⟩ := cv_lt_s hm
    refine cv_iast (q := 86) (ws' := (wX6 q cy s19)) C 6 0 rfl rfl (vp_in_iff.mpr g18) dX6_begin_85 rfl (by rw [es19]; rfl) ?_
    refine cv_aload_n (i := 0) (q := 87) 0 C dX6_begin_86 rfl rfl rfl ?_
    refine cv_get (q := 90) C iX6_begin_X6 0 rfl rfl 7 (by decide) (List.mem_of_getElem? (i := 6) rfl) rfl rfl dX6_begin_87 rfl ?_
    refine cv_iconst (v := 1) (q := 91) C dX6_begin_90 (by decide) rfl ?_
    refine cv_aload_n (i := 0) (q := 92) 0 C dX6_begin_91 rfl rfl rfl ?_
    refine cv_get (q := 95) C iX6_begin_X6 0 rfl rfl 7 (by decide) (List.mem_of_getElem? (i := 6) rfl) rfl rfl dX6_begin_92 rfl ?_
    refine cv_iconst (v := 0) (q := 96) C dX6_begin_95 (by decide) rfl ?_
    obtain ⟨g20, hm⟩ := cv_gd_s hm
    refine cv_iald (q := 97) C 7 0 rfl rfl (vp_in_iff.mpr g20) dX6_begin_96 rfl ?_
    obtain ⟨g21, hm⟩ := cv_gd_s hm
    obtain ⟨s22, es22, hm⟩ := cv_lt_s hm
    refine cv_iast (q := 98) (ws' := (wX6 q cy s22)) C 7 0 rfl rfl (vp_in_iff.mpr g21) dX6_begin_97 rfl (by rw [es22]; rfl) ?_
    refine cv_aload_n (i := 0) (q := 99) 0 C dX6_begin_98 rfl rfl rfl ?_
    refine cv_get (q := 102) C iX6_begin_X6 0 rfl rfl 8 (by decide) (List.mem_of_getElem? (i := 7) rfl) rfl rfl dX6_begin_99 rfl ?_
    refine cv_iconst (v := 1) (q := 103) C dX6_begin_102 (by decide) rfl ?_
    refine cv_aload_n (i := 0) (q := 104) 0 C dX6_begin_103 rfl rfl rfl ?_
    refine cv_get (q := 107) C iX6_begin_X6 0 rfl rfl 8 (by decide) (List.mem_of_getElem? (i := 7) rfl) rfl rfl dX6_begin_104 rfl ?_
    refine cv_iconst (v := 0) (q := 108) C dX6_begin_107 (by decide) rfl ?_
    obtain ⟨g23, hm⟩ := cv_gd_s hm
    refine cv_iald (q := 109) C 8 0 rfl rfl (vp_in_iff.mpr g23) dX6_begin_108 rfl ?_
    obtain ⟨g24, hm⟩ := cv_gd_s hm
    obtain ⟨s25, es25, hm⟩ := cv_lt_s hm
    refine cv_iast (q := 110) (ws' := (wX6 q cy s25)) C 8 0 rfl rfl (vp_in_iff.mpr g24) dX6_begin_109 rfl (by rw [es25]; rfl) ?_
    refine cv_aload_n (i := 0) (q := 111) 0 C dX6_begin_110 rfl rfl rfl ?_
    refine cv_get (q := 114) C iX6_begin_X6 0 rfl rfl 10 (by decide) (List.mem_of_getElem? (i := 8) rfl) rfl rfl dX6_begin_111 rfl ?_
    refine cv_iconst (v := 1) (q := 115) C dX6_begin_114 (by decide) rfl ?_
    refine cv_iconst (v := 0) (q := 116) C dX6_begin_115 (by decide) rfl ?_
    obtain ⟨g26, hm⟩ := cv_gd_s hm
    obtain ⟨s27, es27, hm⟩ := cv_lt_s hm
    refine cv_iast (q := 117) (ws' := (wX6 q cy s27)) C 9 0 rfl rfl (vp_in_iff.mpr g26) dX6_begin_116 rfl (by rw [es27]; rfl) ?_
    refine cv_aload_n (i := 0) (q := 118) 0 C dX6_begin_117 rfl rfl rfl ?_
    refine cv_get (q := 121) C iX6_begin_X6 0 rfl rfl 11 (by decide) (List.mem_of_getElem? (i := 9) rfl) rfl rfl dX6_begin_118 rfl ?_
    refine cv_iconst (v := 1) (q := 122) C dX6_begin_121 (by decide) rfl ?_
    refine cv_iconst (v := 0) (q := 123) C dX6_begin_122 (by decide) rfl ?_
    obtain ⟨g28, hm⟩ := cv_gd_s hm
    obtain ⟨s29, es29, hm⟩ := cv_lt_s hm
    refine cv_iast (q := 124) (ws' := (wX6 q cy s29)) C 10 0 rfl rfl (vp_in_iff.mpr g28) dX6_begin_123 rfl (by rw [es29]; rfl) ?_
    refine cv_aload_n (i := 0) (q := 125) 0 C dX6_begin_124 rfl rfl rfl ?_
    refine cv_aload_n (i := 0) (q := 126) 0 C dX6_begin_125 rfl rfl rfl ?_
    refine cv_get (q := 129) C iX6_begin_X6 0 rfl rfl 14 (by decide) (List.mem_of_getElem? (i := 10) rfl) rfl rfl dX6_begin_126 rfl ?_
    obtain ⟨s30, es30, hm⟩ := cv_lt_s hm
    refine cv_put (q := 132) (ws' := (wX6 q cy s30)) C iX6_begin_X6 tyX6 tyX6_ok nmX6 0 rfl rfl 16 (by decide) (List.mem_of_getElem? (i := 11) rfl) rfl rfl rfl rfl rfl (Nat.le_of_ble_eq_true rfl) dX6_begin_129 rfl (by rw [es30]; rfl) ?_
    refine cv_aload_n (i := 0) (q := 133) 0 C dX6_begin_132 rfl rfl rfl ?_
    refine cv_aload_n (i := 0) (q := 134) 0 C dX6_begin_133 rfl rfl rfl ?_
    refine cv_get (q := 137) C iX6_begin_X6 0 rfl rfl 15 (by decide) (List.mem_of_getElem? (i := 12) rfl) rfl rfl dX6_begin_134 rfl ?_
    obtain ⟨s31, es31, hm⟩ := cv_lt_s hm
    refine cv_put (q := 140) (ws' := (wX6 q cy s31)) C iX6_begin_X6 tyX6 tyX6_ok nmX6 0 rfl rfl 17 (by decide) (List.mem_of_getElem? (i := 13) rfl) rfl rfl rfl rfl rfl (Nat.le_of_ble_eq_true rfl) dX6_begin_137 rfl (by rw [es31]; rfl) ?_
    obtain rfl := Option.some.inj hm
    exact cv_vret C hr hk dX6_begin_140
  · refine cv_sub [1, 0] rfl ?_
    exact vX6_begin_L2 q  C 256 (0 : Int32) S hj15 K16
def fX6_depth_L15 (S : SX6) (u1 : Int32) : Nat → Int32 → Int32 → Option (Int32)
  | 0, _, _ => none
  | n + 1, y3, y4 =>
    if y4 = (-1 : Int32) then
      (
      some y3
      )
    else
      (
      cv_lt (y3 + (1 : Int32)) fun x4 =>
      cv_gd (0 ≤ ((((100 : Int32) * u1) + y4)).toInt ∧ ((((100 : Int32) * u1) + y4)).toInt < 200) <|
      cv_lt (((gX6_above S) ((((100 : Int32) * u1) + y4)).toNatClampNeg)) fun x6 =>
      fX6_depth_L15 S u1 n x4 x6
      )
def fX6_depth (S : SX6) (a1 : Int32) (a2 : Int32) : Option (Int32) :=
  cv_gd (0 ≤ ((((100 : Int32) * a1) + a2)).toInt ∧ ((((100 : Int32) * a1) + a2)).toInt < 200) <|
  cv_lt (((gX6_above S) ((((100 : Int32) * a1) + a2)).toNatClampNeg)) fun x2 =>
  cv_bd (fX6_depth_L15 S a1 256 (0 : Int32) x2) fun j7 =>
  some j7
abbrev rX6_depth : Room := { frames := 0, cells := 0, slots := 0, locals := 0 }
theorem iX6_depth_X6 : ∀ w ∈ u_ws RX6 TX6 50, w ∈ wsX6_depth := fun w h => List.mem_cons_of_mem _ (List.mem_append_right _ h)
set_option maxHeartbeats 4000000 in
set_option maxRecDepth 100000 in
theorem vX6_depth_L15 {p : Program} {l : Launch} {e : Env} {s : State} {m : MethodId} {args : Array Value} {below : List Frame} {meth : Method} {c : Code} {σ : Nat → Nat} {D : va_G} {A : Nat → Prop} {cy : ClassId} (q : Nat → Nat) (S : SX6) (u1 : Int32) (C : cv_C p s m args c cX6_depth 5 RX6 wsX6_depth σ D [(cy, .int)] A) {Q : State → Prop} {j : Int32} : ∀ (n : Nat) (y3 : Int32) (y4 : Int32), fX6_depth_L15 S u1 n y3 y4 = some j → cv_V p l e rX6_depth s m args below meth c 5 D A Q 0 0 (wX6 q cy S) 41 [(3, .int j)] [] → cv_V p l e rX6_depth s m args below meth c 5 D A Q 0 0 (wX6 q cy S) 15 [(0, .ref (q 0)), (1, .int u1), (3, .int y3), (4, .int y4)] [] := by
  intro n
  induction n with
  | zero => intro y3 y4 hm kx; cases hm
  | succ n ih =>
    intro y3 y4 hm kx
    have hm : fX6_depth_L15 S u1 (n + 1) y3 y4 = some j := hm
    unfold fX6_depth_L15 at hm
    refine cv_iload (i := 4) (q := 17) 3 C dX6_depth_15 rfl rfl ?_
    refine cv_iconst (v := -1) (q := 18) C dX6_depth_17 (by decide) rfl ?_
    refine cv_icmp_eq (tgt := 41) (q := 21) C dX6_depth_18 (by decide) rfl (fun h3 => ?_) (fun h3 => ?_)
    · have hm := cv_if_t h3 hm
      obtain rfl := Option.some.inj hm
      refine cv_sub [2] rfl ?_
      exact kx
    · have hm := cv_if_f h3 hm
      obtain ⟨x4, ex4, hm⟩ := cv_lt_s hm
      refine cv_iinc (v := x4) (lv' := [(3, .int x4), (0, .ref (q 0)), (1, .int u1), (4, .int y4)]) (q := 24) 2 C dX6_depth_21 rfl (by rw [ex4]; rfl) (by decide) rfl rfl ?_
      refine cv_aload_n (i := 0) (q := 25) 1 C dX6_depth_24 rfl rfl rfl ?_
      refine cv_get (q := 28) C iX6_depth_X6 0 rfl rfl 4 (by decide) (List.mem_of_getElem? (i := 1) rfl) rfl rfl dX6_depth_25 rfl ?_
      refine cv_bipush (v := 100) (q := 30) C dX6_depth_28 (by decide) rfl ?_
      refine cv_iload_n (i := 1) (q := 31) 2 C dX6_depth_30 rfl rfl rfl ?_
      refine cv_imul (q := 32) C dX6_depth_31 rfl ?_
      refine cv_iload (i := 4) (q := 34) 3 C dX6_depth_32 rfl rfl ?_
      refine cv_iadd (q := 35) C dX6_depth_34 rfl ?_
      obtain ⟨g5, hm⟩ := cv_gd_s hm
      refine cv_iald (q := 36) C 4 0 rfl rfl (vp_in_iff.mpr g5) dX6_depth_35 rfl ?_
      obtain ⟨x6, ex6, hm⟩ := cv_lt_s hm
      refine cv_topi ex6 ?_
      refine cv_istore (i := 4) (lv' := [(4, .int x6), (3, .int x4), (0, .ref (q 0)), (1, .int u1)]) (q := 38) C dX6_depth_36 (by decide) rfl rfl ?_
      refine cv_goto (tgt := 15) C dX6_depth_38 (by decide) ?_
      refine cv_sub [2, 3, 1, 0] rfl ?_
      exact ih x4 x6 hm kx
set_option maxHeartbeats 4000000 in
set_option maxRecDepth 100000 in
theorem KX6_depth {l : Launch} {σ : Nat → Nat} {D : va_G} {cy : ClassId} (q : Nat → Nat) (S : SX6) (a1 : Int32) (a2 : Int32) {res : Int32} (hm : fX6_depth S a1 a2 = some res) : cv_M l yX6_depth wsX6_depth rX6_depth σ D [(cy, .int)] [.ref (q 0), .int a1, .int a2] (wX6 q cy S) (some (.int res)) (wX6 q cy S) := by
  unfold fX6_depth at hm
  refine cv_M.of (own := RX6) (by decide +kernel) rfl rfl (lv := [(0, .ref (q 0)), (1, .int a1), (2, .int a2)]) rfl (Nat.le_of_ble_eq_true rfl) ?_
  intro p e s m args below meth c A C hr hk
  refine cv_iconst (v := 0) (q := 1) C dX6_depth_0 (by decide) rfl ?_
  refine cv_istore_n (i := 3) (lv' := [(3, .int (0 : Int32)), (0, .ref (q 0)), (1, .int a1), (2, .int a2)]) (q := 2) C dX6_depth_1 rfl (by decide) rfl rfl ?_
  refine cv_aload_n (i := 0) (q := 3) 1 C dX6_depth_2 rfl rfl rfl ?_
  refine cv_get (q := 6) C iX6_depth_X6 0 rfl rfl 4 (by decide) (List.mem_of_getElem? (i := 1) rfl) rfl rfl dX6_depth_3 rfl ?_
  refine cv_bipush (v := 100) (q := 8) C dX6_depth_6 (by decide) rfl ?_
  refine cv_iload_n (i := 1) (q := 9) 2 C dX6_depth_8 rfl rfl rfl ?_
  refine cv_imul (q := 10) C dX6_depth_9 rfl ?_
  refine cv_iload_n (i := 2) (q := 11) 3 C dX6_depth_10 rfl rfl rfl ?_
  refine cv_iadd (q := 12) C dX6_depth_11 rfl ?_
  obtain ⟨g1, hm⟩ := cv_gd_s hm
  refine cv_iald (q := 13) C 4 0 rfl rfl (vp_in_iff.mpr g1) dX6_depth_12 rfl ?_
  obtain ⟨x2, ex2, hm⟩ := cv_lt_s hm
  refine cv_topi ex2 ?_
  refine cv_istore (i := 4) (lv' := [(4, .int x2), (3, .int (0 : Int32)), (0, .ref (q 0)), (1, .int a1), (2, .int a2)]) (q := 15) C dX6_depth_13 (by decide) rfl rfl ?_
  obtain ⟨j7, hj7, hm⟩ := cv_bd_s hm
  refine cv_cut (ws' := (wX6 q cy S)) (pc' := 41) (lv' := [(3, .int j7)]) (st' := []) ?_ (fun K8 => ?_)
  · refine cv_iload_n (i := 3) (q := 42) 0 C dX6_depth_41 rfl rfl rfl ?_
    obtain rfl := Option.some.inj hm
    exact cv_iret C hr hk dX6_depth_42
  · refine cv_sub [2, 3, 1, 0] rfl ?_
    exact vX6_depth_L15 q S a1 C 256 (0 : Int32) x2 hj7 K8
def fX6_isBelow_L3 (S : SX6) (u1 : Int32) (u3 : Int32) : Nat → Int32 → Option (Int32)
  | 0, _ => none
  | n + 1, y4 =>
    if y4 = (-1 : Int32) then
      (
      some y4
      )
    else
      (
      if y4 = u3 then
        (
        some y4
        )
      else
        (
        cv_gd (0 ≤ ((((100 : Int32) * u1) + y4)).toInt ∧ ((((100 : Int32) * u1) + y4)).toInt < 200) <|
        cv_lt (((gX6_above S) ((((100 : Int32) * u1) + y4)).toNatClampNeg)) fun x4 =>
        fX6_isBelow_L3 S u1 u3 n x4
        )
      )
def fX6_isBelow (S : SX6) (a1 : Int32) (a2 : Int32) (a3 : Int32) : Option (Int32) :=
  cv_bd (fX6_isBelow_L3 S a1 a3 256 a2) fun j5 =>
  if j5 = a3 then
    (
    some (1 : Int32)
    )
  else
    (
    some (0 : Int32)
    )
abbrev rX6_isBelow : Room := { frames := 0, cells := 0, slots := 0, locals := 0 }
theorem iX6_isBelow_X6 : ∀ w ∈ u_ws RX6 TX6 50, w ∈ wsX6_isBelow := fun w h => List.mem_cons_of_mem _ (List.mem_append_right _ h)
set_option maxHeartbeats 4000000 in
set_option maxRecDepth 100000 in
theorem vX6_isBelow_L3 {p : Program} {l : Launch} {e : Env} {s : State} {m : MethodId} {args : Array Value} {below : List Frame} {meth : Method} {c : Code} {σ : Nat → Nat} {D : va_G} {A : Nat → Prop} {cy : ClassId} (q : Nat → Nat) (S : SX6) (u1 : Int32) (u3 : Int32) (C : cv_C p s m args c cX6_isBelow 5 RX6 wsX6_isBelow σ D [(cy, .int)] A) {Q : State → Prop} {j : Int32} : ∀ (n : Nat) (y4 : Int32), fX6_isBelow_L3 S u1 u3 n y4 = some j → cv_V p l e rX6_isBelow s m args below meth c 5 D A Q 0 0 (wX6 q cy S) 32 [(3, .int u3), (4, .int j)] [] → cv_V p l e rX6_isBelow s m args below meth c 5 D A Q 0 0 (wX6 q cy S) 3 [(0, .ref (q 0)), (1, .int u1), (3, .int u3), (4, .int y4)] [] := by
  intro n
  induction n with
  | zero => intro y4 hm kx; cases hm
  | succ n ih =>
    intro y4 hm kx
    have hm : fX6_isBelow_L3 S u1 u3 (n + 1) y4 = some j := hm
    unfold fX6_isBelow_L3 at hm
    refine cv_iload (i := 4) (q := 5) 3 C dX6_isBelow_3 rfl rfl ?_
    refine cv_iconst (v := -1) (q := 6) C dX6_isBelow_5 (by decide) rfl ?_
    refine cv_icmp_eq (tgt := 32) (q := 9) C dX6_isBelow_6 (by decide) rfl (fun h1 => ?_) (fun h1 => ?_)
    · have hm := cv_if_t h1 hm
      obtain rfl := Option.some.inj hm
      refine cv_sub [2, 3] rfl ?_
      exact kx
    · have hm := cv_if_f h1 hm
      refine cv_iload (i := 4) (q := 11) 3 C dX6_isBelow_9 rfl rfl ?_
      refine cv_iload_n (i := 3) (q := 12) 2 C dX6_isBelow_11 rfl rfl rfl ?_
      refine cv_icmp_eq (tgt := 32) (q := 15) C dX6_isBelow_12 (by decide) rfl (fun h2 => ?_) (fun h2 => ?_)
      · have hm := cv_if_t h2 hm
        obtain rfl := Option.some.inj hm
        refine cv_sub [2, 3] rfl ?_
        exact kx
      · have hm := cv_if_f h2 hm
        refine cv_aload_n (i := 0) (q := 16) 0 C dX6_isBelow_15 rfl rfl rfl ?_
        refine cv_get (q := 19) C iX6_isBelow_X6 0 rfl rfl 4 (by decide) (List.mem_of_getElem? (i := 1) rfl) rfl rfl dX6_isBelow_16 rfl ?_
        refine cv_bipush (v := 100) (q := 21) C dX6_isBelow_19 (by decide) rfl ?_
        refine cv_iload_n (i := 1) (q := 22) 1 C dX6_isBelow_21 rfl rfl rfl ?_
        refine cv_imul (q := 23) C dX6_isBelow_22 rfl ?_
        refine cv_iload (i := 4) (q := 25) 3 C dX6_isBelow_23 rfl rfl ?_
        refine cv_iadd (q := 26) C dX6_isBelow_25 rfl ?_
        obtain ⟨g3, hm⟩ := cv_gd_s hm
        refine cv_iald (q := 27) C 4 0 rfl rfl (vp_in_iff.mpr g3) dX6_isBelow_26 rfl ?_
        obtain ⟨x4, ex4, hm⟩ := cv_lt_s hm
        refine cv_topi ex4 ?_
        refine cv_istore (i := 4) (lv' := [(4, .int x4), (0, .ref (q 0)), (1, .int u1), (3, .int u3)]) (q := 29) C dX6_isBelow_27 (by decide) rfl rfl ?_
        refine cv_goto (tgt := 3) C dX6_isBelow_29 (by decide) ?_
        refine cv_sub [1, 2, 3, 0] rfl ?_
        exact ih x4 hm kx
set_option maxHeartbeats 4000000 in
set_option maxRecDepth 100000 in
theorem KX6_isBelow {l : Launch} {σ : Nat → Nat} {D : va_G} {cy : ClassId} (q : Nat → Nat) (S : SX6) (a1 : Int32) (a2 : Int32) (a3 : Int32) {res : Int32} (hm : fX6_isBelow S a1 a2 a3 = some res) : cv_M l yX6_isBelow wsX6_isBelow rX6_isBelow σ D [(cy, .int)] [.ref (q 0), .int a1, .int a2, .int a3] (wX6 q cy S) (some (.int res)) (wX6 q cy S) := by
  unfold fX6_isBelow at hm
  refine cv_M.of (own := RX6) (by decide +kernel) rfl rfl (lv := [(0, .ref (q 0)), (1, .int a1), (2, .int a2), (3, .int a3)]) rfl (Nat.le_of_ble_eq_true rfl) ?_
  intro p e s m args below meth c A C hr hk
  refine cv_iload_n (i := 2) (q := 1) 2 C dX6_isBelow_0 rfl rfl rfl ?_
  refine cv_istore (i := 4) (lv' := [(4, .int a2), (0, .ref (q 0)), (1, .int a1), (2, .int a2), (3, .int a3)]) (q := 3) C dX6_isBelow_1 (by decide) rfl rfl ?_
  obtain ⟨j5, hj5, hm⟩ := cv_bd_s hm
  refine cv_cut (ws' := (wX6 q cy S)) (pc' := 32) (lv' := [(3, .int a3), (4, .int j5)]) (st' := []) ?_ (fun K6 => ?_)
  · refine cv_iload (i := 4) (q := 34) 1 C dX6_isBelow_32 rfl rfl ?_
    refine cv_iload_n (i := 3) (q := 35) 0 C dX6_isBelow_34 rfl rfl rfl ?_
    refine cv_icmp_ne (tgt := 42) (q := 38) C dX6_isBelow_35 (by decide) rfl (fun h7 => ?_) (fun h7 => ?_)
    · have hm := cv_if_f h7 hm
      refine cv_iconst (v := 0) (q := 43) C dX6_isBelow_42 (by decide) rfl ?_
      obtain rfl := Option.some.inj hm
      exact cv_zret C hr hk (cv_bool (Or.inl rfl)) dX6_isBelow_43
    · have hm := cv_if_t h7 hm
      refine cv_iconst (v := 1) (q := 39) C dX6_isBelow_38 (by decide) rfl ?_
      refine cv_goto (tgt := 43) C dX6_isBelow_39 (by decide) ?_
      obtain rfl := Option.some.inj hm
      exact cv_zret C hr hk (cv_bool (Or.inr rfl)) dX6_isBelow_43
  · refine cv_sub [1, 2, 4, 0] rfl ?_
    exact vX6_isBelow_L3 q S a1 a3 C 256 a2 hj5 K6
def fX6_size_L5 (S : SX6) (u1 : Int32) (u2 : Int32) : Nat → Int32 → Int32 → Option (Int32)
  | 0, _, _ => none
  | n + 1, y3, y4 =>
    if (100 : Int32) ≤ y4 then
      (
      some y3
      )
    else
      (
      if u2 = (-1 : Int32) then
        (
        some y3
        )
      else
        (
        cv_gd (0 ≤ ((((100 : Int32) * u1) + y4)).toInt ∧ ((((100 : Int32) * u1) + y4)).toInt < 200) <|
        cv_bd (
          if ((gX6_there S) ((((100 : Int32) * u1) + y4)).toNatClampNeg) = (1 : Int32) then
            (
            cv_bd (fX6_isBelow S u1 y4 u2) fun r9 =>
            if r9 = 0 then
              (
              some (0 : Int32)
              )
            else
              (
              some (1 : Int32)
              )
            )
          else
            (
            some (0 : Int32)
            )
        ) fun j4 =>
        cv_lt ((y3 + j4)) fun x6 =>
        cv_lt (y4 + (1 : Int32)) fun x7 =>
        fX6_size_L5 S u1 u2 n x6 x7
        )
      )
def fX6_size (S : SX6) (a1 : Int32) (a2 : Int32) : Option (Int32) :=
  cv_bd (fX6_size_L5 S a1 a2 256 (0 : Int32) (0 : Int32)) fun j11 =>
  some j11
abbrev rX6_size : Room := { frames := 1, cells := 0, slots := 0, locals := 24 }
theorem iX6_size_X6 : ∀ w ∈ u_ws RX6 TX6 50, w ∈ wsX6_size := fun w h => List.mem_cons_of_mem _ (List.mem_append_right _ h)
set_option maxHeartbeats 4000000 in
set_option maxRecDepth 100000 in
theorem vX6_size_L5 {p : Program} {l : Launch} {e : Env} {s : State} {m : MethodId} {args : Array Value} {below : List Frame} {meth : Method} {c : Code} {σ : Nat → Nat} {D : va_G} {A : Nat → Prop} {cy : ClassId} (q : Nat → Nat) (S : SX6) (u1 : Int32) (u2 : Int32) (C : cv_C p s m args c cX6_size 5 RX6 wsX6_size σ D [(cy, .int)] A) {Q : State → Prop} {j : Int32} : ∀ (n : Nat) (y3 : Int32) (y4 : Int32), fX6_size_L5 S u1 u2 n y3 y4 = some j → cv_V p l e rX6_size s m args below meth c 5 D A Q 0 0 (wX6 q cy S) 58 [(3, .int j)] [] → cv_V p l e rX6_size s m args below meth c 5 D A Q 0 0 (wX6 q cy S) 5 [(0, .ref (q 0)), (1, .int u1), (2, .int u2), (3, .int y3), (4, .int y4)] [] := by
  intro n
  induction n with
  | zero => intro y3 y4 hm kx; cases hm
  | succ n ih =>
    intro y3 y4 hm kx
    have hm : fX6_size_L5 S u1 u2 (n + 1) y3 y4 = some j := hm
    unfold fX6_size_L5 at hm
    refine cv_iload (i := 4) (q := 7) 4 C dX6_size_5 rfl rfl ?_
    refine cv_bipush (v := 100) (q := 9) C dX6_size_7 (by decide) rfl ?_
    refine cv_icmp_ge (tgt := 58) (q := 12) C dX6_size_9 (by decide) rfl (fun h1 => ?_) (fun h1 => ?_)
    · have hm := cv_if_t h1 hm
      obtain rfl := Option.some.inj hm
      refine cv_sub [3] rfl ?_
      exact kx
    · have hm := cv_if_f h1 hm
      refine cv_iload_n (i := 2) (q := 13) 2 C dX6_size_12 rfl rfl rfl ?_
      refine cv_iconst (v := -1) (q := 14) C dX6_size_13 (by decide) rfl ?_
      refine cv_icmp_eq (tgt := 58) (q := 17) C dX6_size_14 (by decide) rfl (fun h2 => ?_) (fun h2 => ?_)
      · have hm := cv_if_t h2 hm
        obtain rfl := Option.some.inj hm
        refine cv_sub [3] rfl ?_
        exact kx
      · have hm := cv_if_f h2 hm
        refine cv_iload_n (i := 3) (q := 18) 3 C dX6_size_17 rfl rfl rfl ?_
        refine cv_aload_n (i := 0) (q := 19) 0 C dX6_size_18 rfl rfl rfl ?_
        refine cv_get (q := 22) C iX6_size_X6 0 rfl rfl 5 (by decide) (List.mem_of_getElem? (i := 1) rfl) rfl rfl dX6_size_19 rfl ?_
        refine cv_bipush (v := 100) (q := 24) C dX6_size_22 (by decide) rfl ?_
        refine cv_iload_n (i := 1) (q := 25) 1 C dX6_size_24 rfl rfl rfl ?_
        refine cv_imul (q := 26) C dX6_size_25 rfl ?_
        refine cv_iload (i := 4) (q := 28) 4 C dX6_size_26 rfl rfl ?_
        refine cv_iadd (q := 29) C dX6_size_28 rfl ?_
        obtain ⟨g3, hm⟩ := cv_gd_s hm
        refine cv_iald (q := 30) C 5 0 rfl rfl (vp_in_iff.mpr g3) dX6_size_29 rfl ?_
        refine cv_iconst (v := 1) (q := 31) C dX6_size_30 (by decide) rfl ?_
        obtain ⟨j4, hj4, hm⟩ := cv_bd_s hm
        refine cv_cut (ws' := (wX6 q cy S)) (pc' := 50) (lv' := [(0, .ref (q 0)), (1, .int u1), (2, .int u2), (4, .int y4)]) (st' := [.int j4, .int y3]) ?_ (fun K5 => ?_)
        · refine cv_iadd (q := 51) C dX6_size_50 rfl ?_
          obtain ⟨x6, ex6, hm⟩ := cv_lt_s hm
          refine cv_topi ex6 ?_
          refine cv_istore_n (i := 3) (lv' := [(3, .int x6), (0, .ref (q 0)), (1, .int u1), (2, .int u2), (4, .int y4)]) (q := 52) C dX6_size_51 rfl (by decide) rfl rfl ?_
          obtain ⟨x7, ex7, hm⟩ := cv_lt_s hm
          refine cv_iinc (v := x7) (lv' := [(4, .int x7), (3, .int x6), (0, .ref (q 0)), (1, .int u1), (2, .int u2)]) (q := 55) 4 C dX6_size_52 rfl (by rw [ex7]; rfl) (by decide) rfl rfl ?_
          refine cv_goto (tgt := 5) C dX6_size_55 (by decide) ?_
          refine cv_sub [2, 3, 4, 1, 0] rfl ?_
          exact ih x6 x7 hm kx
        · have hm := hj4
          refine cv_icmp_ne (tgt := 49) (q := 34) C dX6_size_31 (by decide) rfl (fun h8 => ?_) (fun h8 => ?_)
          · have hm := cv_if_f h8 hm
            refine cv_iconst (v := 0) (q := 50) C dX6_size_49 (by decide) rfl ?_
            obtain rfl := Option.some.inj hm
            refine cv_sub [0, 1, 2, 4] rfl ?_
            exact K5
          · have hm := cv_if_t h8 hm
            refine cv_aload_n (i := 0) (q := 35) 0 C dX6_size_34 rfl rfl rfl ?_
            refine cv_iload_n (i := 1) (q := 36) 1 C dX6_size_35 rfl rfl rfl ?_
            refine cv_iload (i := 4) (q := 38) 4 C dX6_size_36 rfl rfl ?_
            refine cv_iload_n (i := 2) (q := 39) 2 C dX6_size_38 rfl rfl rfl ?_
            obtain ⟨r9, hr9, hm⟩ := cv_bd_s hm
            refine cv_goW (q := 42) C (KX6_isBelow (l := l) (σ := σ) (D := D) (cy := cy)  q  S u1 y4 u2 hr9) (cv_rv (As := [.int u1, .int y4, .int u2]) (st := [.int y3]) (n := 3) (q0 := 0) (ci := 6) C (KX6_isBelow (l := l) (σ := σ) (D := D) (cy := cy)  q  S u1 y4 u2 hr9) rfl rfl gX6_size_X6_isBelow rfl ⟨rfl, rfl⟩ (by decide +kernel) rfl ⟨Nat.le_of_ble_eq_true rfl, Nat.le_of_ble_eq_true rfl⟩ rfl (Nat.le_of_ble_eq_true rfl) dX6_size_39 ⟨Nat.zero_le _, Nat.zero_le _⟩) rfl ?_
            refine cv_if_eq (tgt := 49) (q := 45) C dX6_size_42 (by decide) rfl (fun h10 => ?_) (fun h10 => ?_)
            · have hm := cv_if_t h10 hm
              refine cv_iconst (v := 0) (q := 50) C dX6_size_49 (by decide) rfl ?_
              obtain rfl := Option.some.inj hm
              refine cv_sub [0, 1, 2, 4] rfl ?_
              exact K5
            · have hm := cv_if_f h10 hm
              refine cv_iconst (v := 1) (q := 46) C dX6_size_45 (by decide) rfl ?_
              refine cv_goto (tgt := 50) C dX6_size_46 (by decide) ?_
              obtain rfl := Option.some.inj hm
              refine cv_sub [0, 1, 2, 4] rfl ?_
              exact K5
set_option maxHeartbeats 4000000 in
set_option maxRecDepth 100000 in
theorem KX6_size {l : Launch} {σ : Nat → Nat} {D : va_G} {cy : ClassId} (q : Nat → Nat) (S : SX6) (a1 : Int32) (a2 : Int32) {res : Int32} (hm : fX6_size S a1 a2 = some res) : cv_M l yX6_size wsX6_size rX6_size σ D [(cy, .int)] [.ref (q 0), .int a1, .int a2] (wX6 q cy S) (some (.int res)) (wX6 q cy S) := by
  unfold fX6_size at hm
  refine cv_M.of (own := RX6) (by decide +kernel) rfl rfl (lv := [(0, .ref (q 0)), (1, .int a1), (2, .int a2)]) rfl (Nat.le_of_ble_eq_true rfl) ?_
  intro p e s m args below meth c A C hr hk
  refine cv_iconst (v := 0) (q := 1) C dX6_size_0 (by decide) rfl ?_
  refine cv_istore_n (i := 3) (lv' := [(3, .int (0 : Int32)), (0, .ref (q 0)), (1, .int a1), (2, .int a2)]) (q := 2) C dX6_size_1 rfl (by decide) rfl rfl ?_
  refine cv_iconst (v := 0) (q := 3) C dX6_size_2 (by decide) rfl ?_
  refine cv_istore (i := 4) (lv' := [(4, .int (0 : Int32)), (3, .int (0 : Int32)), (0, .ref (q 0)), (1, .int a1), (2, .int a2)]) (q := 5) C dX6_size_3 (by decide) rfl rfl ?_
  obtain ⟨j11, hj11, hm⟩ := cv_bd_s hm
  refine cv_cut (ws' := (wX6 q cy S)) (pc' := 58) (lv' := [(3, .int j11)]) (st' := []) ?_ (fun K12 => ?_)
  · refine cv_iload_n (i := 3) (q := 59) 0 C dX6_size_58 rfl rfl rfl ?_
    obtain rfl := Option.some.inj hm
    exact cv_iret C hr hk dX6_size_59
  · refine cv_sub [2, 3, 4, 1, 0] rfl ?_
    exact vX6_size_L5 q S a1 a2 C 256 (0 : Int32) (0 : Int32) hj11 K12
