def fX5_letter (S : SX5) (a1 : Int32) : Option (Int32 × SX5) :=
  if a1 < (1 : Int32) then
    (
    some ((-102 : Int32), S)
    )
  else
    (
    if a1 ≤ (126 : Int32) then
      (
      cv_bd (fX1_append (gX5_page S) a1) fun r3 =>
      cv_lt (sX5_page S r3.2) fun s4 =>
      if r3.1 = 0 then
        (
        some ((-104 : Int32), s4)
        )
      else
        (
        some ((gX1_length (gX5_page s4)), s4)
        )
      )
    else
      (
      some ((-102 : Int32), S)
      )
    )
abbrev rX5_letter : Room := { frames := 1, cells := 0, slots := 0, locals := 21 }
theorem iX5_letter_X1 : ∀ w ∈ u_ws RX1 TX1 2, w ∈ wsX5_letter := fun w h => List.mem_cons_of_mem _ (List.mem_append_right _ h)
theorem iX5_letter_X5 : ∀ w ∈ u_ws RX5 TX5 7, w ∈ wsX5_letter := fun w h => List.mem_cons_of_mem _ (List.mem_append_left _ (List.mem_append_right _ h))
set_option maxHeartbeats 4000000 in
set_option maxRecDepth 100000 in
theorem KX5_letter {l : Launch} {σ : Nat → Nat} {D : va_G} {cy : ClassId} (q : Nat → Nat) (S : SX5) (a1 : Int32) {res : Int32 × SX5} (hm : fX5_letter S a1 = some res) : cv_M l yX5_letter wsX5_letter rX5_letter σ D [(cy, .int)] [.ref (q 0), .int a1] (wX5 q cy S) (some (.int res.1)) (wX5 q cy res.2) := by
  unfold fX5_letter at hm
  refine cv_M.of (own := RX5) (by decide +kernel) rfl rfl (lv := [(0, .ref (q 0)), (1, .int a1)]) rfl (Nat.le_of_ble_eq_true rfl) ?_
  intro p e s m args below meth c A C hr hk
  refine cv_iload_n (i := 1) (q := 1) 1 C dX5_letter_0 rfl rfl rfl ?_
  refine cv_iconst (v := 1) (q := 2) C dX5_letter_1 (by decide) rfl ?_
  refine cv_icmp_lt (tgt := 11) (q := 5) C dX5_letter_2 (by decide) rfl (fun h1 => ?_) (fun h1 => ?_)
  · have hm := cv_if_t h1 hm
    refine cv_bipush (v := -102) (q := 13) C dX5_letter_11 (by decide) rfl ?_
    obtain rfl := Option.some.inj hm
    exact cv_iret C hr hk dX5_letter_13
  · have hm := cv_if_f h1 hm
    refine cv_iload_n (i := 1) (q := 6) 1 C dX5_letter_5 rfl rfl rfl ?_
    refine cv_bipush (v := 126) (q := 8) C dX5_letter_6 (by decide) rfl ?_
    refine cv_icmp_le (tgt := 14) (q := 11) C dX5_letter_8 (by decide) rfl (fun h2 => ?_) (fun h2 => ?_)
    · have hm := cv_if_t h2 hm
      refine cv_aload_n (i := 0) (q := 15) 0 C dX5_letter_14 rfl rfl rfl ?_
      refine cv_get (q := 18) C iX5_letter_X5 0 rfl rfl 0 (by decide) (List.mem_of_getElem? (i := 1) rfl) rfl rfl dX5_letter_15 rfl ?_
      refine cv_iload_n (i := 1) (q := 19) 1 C dX5_letter_18 rfl rfl rfl ?_
      obtain ⟨r3, hr3, hm⟩ := cv_bd_s hm
      obtain ⟨s4, es4, hm⟩ := cv_lt_s hm
      refine cv_go (q := 22) (ws' := (wX5 q cy s4)) C (KX1_append (l := l) (σ := σ) (D := D) (cy := cy)  (cv_sh q 1)  (gX5_page S) a1 hr3) (cv_rv (As := [.int a1]) (st := []) (n := 1) (q0 := 1) (ci := 1) C (KX1_append (l := l) (σ := σ) (D := D) (cy := cy)  (cv_sh q 1)  (gX5_page S) a1 hr3) rfl rfl gX5_letter_X1_append rfl ⟨rfl, rfl⟩ (by decide +kernel) rfl ⟨Nat.le_of_ble_eq_true rfl, Nat.le_of_ble_eq_true rfl⟩ rfl (Nat.le_of_ble_eq_true rfl) dX5_letter_19 ⟨Nat.zero_le _, Nat.zero_le _⟩) [1, 2] [0, 3, 4, 5, 6, 7, 8, 9, 10, 11, 12, 13, 14, 15, 16, 17, 18, 19, 20, 21, 22, 23, 24, 25, 26, 27, 28, 29, 30, 31, 32, 33, 34, 35, 36] rfl (wr := cv_pk (wX5 q cy S) [0, 3, 4, 5, 6, 7, 8, 9, 10, 11, 12, 13, 14, 15, 16, 17, 18, 19, 20, 21, 22, 23, 24, 25, 26, 27, 28, 29, 30, 31, 32, 33, 34, 35, 36]) rfl (by decide) (by decide) (by decide) [0, 35, 36, 1, 2, 3, 4, 5, 6, 7, 8, 9, 10, 11, 12, 13, 14, 15, 16, 17, 18, 19, 20, 21, 22, 23, 24, 25, 26, 27, 28, 29, 30, 31, 32, 33, 34] (by decide) (by rw [es4]; rfl) rfl ?_
      refine cv_if_eq (tgt := 35) (q := 25) C dX5_letter_22 (by decide) rfl (fun h5 => ?_) (fun h5 => ?_)
      · have hm := cv_if_t h5 hm
        refine cv_bipush (v := -104) (q := 37) C dX5_letter_35 (by decide) rfl ?_
        obtain rfl := Option.some.inj hm
        exact cv_iret C hr hk dX5_letter_37
      · have hm := cv_if_f h5 hm
        refine cv_aload_n (i := 0) (q := 26) 0 C dX5_letter_25 rfl rfl rfl ?_
        refine cv_get (q := 29) C iX5_letter_X5 0 rfl rfl 0 (by decide) (List.mem_of_getElem? (i := 1) rfl) rfl rfl dX5_letter_26 rfl ?_
        refine cv_get (q := 32) C iX5_letter_X1 1 rfl rfl 1 (by decide) (List.mem_of_getElem? (i := 2) rfl) rfl rfl dX5_letter_29 rfl ?_
        refine cv_goto (tgt := 37) C dX5_letter_32 (by decide) ?_
        obtain rfl := Option.some.inj hm
        exact cv_iret C hr hk dX5_letter_37
    · have hm := cv_if_f h2 hm
      refine cv_bipush (v := -102) (q := 13) C dX5_letter_11 (by decide) rfl ?_
      obtain rfl := Option.some.inj hm
      exact cv_iret C hr hk dX5_letter_13
def fX5_blank (S : SX5) : Option (Int32 × SX5) :=
  cv_lt ((gX1_length (gX5_page S))) fun x1 =>
  cv_lt (sX5_page S (sX1_length (gX5_page S) (0 : Int32))) fun s2 =>
  some (x1, s2)
abbrev rX5_blank : Room := { frames := 0, cells := 0, slots := 0, locals := 0 }
theorem iX5_blank_X1 : ∀ w ∈ u_ws RX1 TX1 2, w ∈ wsX5_blank := fun w h => List.mem_cons_of_mem _ (List.mem_append_right _ h)
theorem iX5_blank_X5 : ∀ w ∈ u_ws RX5 TX5 7, w ∈ wsX5_blank := fun w h => List.mem_cons_of_mem _ (List.mem_append_left _ (List.mem_append_right _ h))
set_option maxHeartbeats 4000000 in
set_option maxRecDepth 100000 in
theorem KX5_blank {l : Launch} {σ : Nat → Nat} {D : va_G} {cy : ClassId} (q : Nat → Nat) (S : SX5) {res : Int32 × SX5} (hm : fX5_blank S = some res) : cv_M l yX5_blank wsX5_blank rX5_blank σ D [(cy, .int)] [.ref (q 0)] (wX5 q cy S) (some (.int res.1)) (wX5 q cy res.2) := by
  unfold fX5_blank at hm
  refine cv_M.of (own := RX5) (by decide +kernel) rfl rfl (lv := [(0, .ref (q 0))]) rfl (Nat.le_of_ble_eq_true rfl) ?_
  intro p e s m args below meth c A C hr hk
  refine cv_aload_n (i := 0) (q := 1) 0 C dX5_blank_0 rfl rfl rfl ?_
  refine cv_get (q := 4) C iX5_blank_X5 0 rfl rfl 0 (by decide) (List.mem_of_getElem? (i := 1) rfl) rfl rfl dX5_blank_1 rfl ?_
  refine cv_get (q := 7) C iX5_blank_X1 1 rfl rfl 1 (by decide) (List.mem_of_getElem? (i := 2) rfl) rfl rfl dX5_blank_4 rfl ?_
  obtain ⟨x1, ex1, hm⟩ := cv_lt_s hm
  refine cv_topi ex1 ?_
  refine cv_istore_n (i := 1) (lv' := [(1, .int x1), (0, .ref (q 0))]) (q := 8) C dX5_blank_7 rfl (by decide) rfl rfl ?_
  refine cv_aload_n (i := 0) (q := 9) 1 C dX5_blank_8 rfl rfl rfl ?_
  refine cv_get (q := 12) C iX5_blank_X5 0 rfl rfl 0 (by decide) (List.mem_of_getElem? (i := 1) rfl) rfl rfl dX5_blank_9 rfl ?_
  refine cv_iconst (v := 0) (q := 13) C dX5_blank_12 (by decide) rfl ?_
  obtain ⟨s2, es2, hm⟩ := cv_lt_s hm
  refine cv_put (q := 16) (ws' := (wX5 q cy s2)) C iX5_blank_X1 tyX1 tyX1_ok nmX1 1 rfl rfl 1 (by decide) (List.mem_of_getElem? (i := 2) rfl) rfl rfl rfl rfl rfl (Nat.le_of_ble_eq_true rfl) dX5_blank_13 rfl (by rw [es2]; rfl) ?_
  refine cv_iload_n (i := 1) (q := 17) 0 C dX5_blank_16 rfl rfl rfl ?_
  obtain rfl := Option.some.inj hm
  exact cv_iret C hr hk dX5_blank_17
def fX5_fault (S : SX5) : Option (Int32) :=
  cv_bd (fX1_firstWrong (gX5_page S)) fun r1 =>
  some r1
abbrev rX5_fault : Room := { frames := 8, cells := 0, slots := 0, locals := 177 }
theorem iX5_fault_X5 : ∀ w ∈ u_ws RX5 TX5 7, w ∈ wsX5_fault := fun w h => List.mem_cons_of_mem _ (List.mem_append_left _ (List.mem_append_right _ h))
set_option maxHeartbeats 4000000 in
set_option maxRecDepth 100000 in
theorem KX5_fault {l : Launch} {σ : Nat → Nat} {D : va_G} {cy : ClassId} (q : Nat → Nat) (S : SX5) {res : Int32} (hm : fX5_fault S = some res) : cv_M l yX5_fault wsX5_fault rX5_fault σ D [(cy, .int)] [.ref (q 0)] (wX5 q cy S) (some (.int res)) (wX5 q cy S) := by
  unfold fX5_fault at hm
  refine cv_M.of (own := RX5) (by decide +kernel) rfl rfl (lv := [(0, .ref (q 0))]) rfl (Nat.le_of_ble_eq_true rfl) ?_
  intro p e s m args below meth c A C hr hk
  refine cv_aload_n (i := 0) (q := 1) 0 C dX5_fault_0 rfl rfl rfl ?_
  refine cv_get (q := 4) C iX5_fault_X5 0 rfl rfl 0 (by decide) (List.mem_of_getElem? (i := 1) rfl) rfl rfl dX5_fault_1 rfl ?_
  obtain ⟨r1, hr1, hm⟩ := cv_bd_s hm
  refine cv_go (q := 7) (ws' := (wX5 q cy S)) C (KX1_firstWrong (l := l) (σ := σ) (D := D) (cy := cy)  (cv_sh q 1)  (gX5_page S)  hr1) (cv_rv (As := []) (st := []) (n := 0) (q0 := 1) (ci := 1) C (KX1_firstWrong (l := l) (σ := σ) (D := D) (cy := cy)  (cv_sh q 1)  (gX5_page S)  hr1) rfl rfl gX5_fault_X1_firstWrong rfl ⟨rfl, rfl⟩ (by decide +kernel) rfl ⟨Nat.le_of_ble_eq_true rfl, Nat.le_of_ble_eq_true rfl⟩ rfl (Nat.le_of_ble_eq_true rfl) dX5_fault_4 ⟨Nat.zero_le _, Nat.zero_le _⟩) [1, 2] [0, 3, 4, 5, 6, 7, 8, 9, 10, 11, 12, 13, 14, 15, 16, 17, 18, 19, 20, 21, 22, 23, 24, 25, 26, 27, 28, 29, 30, 31, 32, 33, 34, 35, 36] rfl (wr := cv_pk (wX5 q cy S) [0, 3, 4, 5, 6, 7, 8, 9, 10, 11, 12, 13, 14, 15, 16, 17, 18, 19, 20, 21, 22, 23, 24, 25, 26, 27, 28, 29, 30, 31, 32, 33, 34, 35, 36]) rfl (by decide) (by decide) (by decide) [0, 35, 36, 1, 2, 3, 4, 5, 6, 7, 8, 9, 10, 11, 12, 13, 14, 15, 16, 17, 18, 19, 20, 21, 22, 23, 24, 25, 26, 27, 28, 29, 30, 31, 32, 33, 34] (by decide) rfl rfl ?_
  obtain rfl := Option.some.inj hm
  exact cv_iret C hr hk dX5_fault_7
def fX5_shelf_L54 (u1 : Int32) : Nat → Int32 → SX5 → Option (SX5)
  | 0, _, _ => none
  | n + 1, y2, S =>
    if u1 ≤ y2 then
      (
      some S
      )
    else
      (
      cv_bd (fX1_kindOf (gX5_page S) y2) fun r10 =>
      cv_bd (fX1_keyOf (gX5_page S) y2) fun r11 =>
      cv_bd (fX1_valueOf (gX5_page S) y2) fun r12 =>
      cv_bd (fX3_place (gX5_now S) r10 r11 r12) fun r13 =>
      cv_lt (sX5_now S r13.2) fun s14 =>
      cv_lt (y2 + (1 : Int32)) fun x15 =>
      fX5_shelf_L54 u1 n x15 s14
      )
def fX5_shelf (S : SX5) : Option (Int32 × SX5) :=
  cv_bd (fX1_isShelf (gX5_page S)) fun r1 =>
  if r1 = 0 then
    (
    some ((-103 : Int32), S)
    )
  else
    (
    cv_bd (fX1_digit (gX5_page S) (0 : Int32)) fun r3 =>
    cv_bd (fX1_digit (gX5_page S) (1 : Int32)) fun r4 =>
    cv_bd (fX1_digit (gX5_page S) (3 : Int32)) fun r5 =>
    cv_bd (fX3_begin (gX5_now S) r3 r4 r5) fun r6 =>
    cv_lt (sX5_now S r6) fun s7 =>
    cv_bd (fX1_entries (gX5_page s7)) fun r8 =>
    cv_bd (fX5_shelf_L54 r8 256 (0 : Int32) s7) fun j16 =>
    cv_lt (sX5_page j16 (sX1_length (gX5_page j16) (0 : Int32))) fun s18 =>
    cv_lt (sX5_open s18 (1 : Int32)) fun s19 =>
    cv_lt (sX5_imaged s19 (0 : Int32)) fun s20 =>
    cv_lt (sX5_timesRead s20 ((gX5_timesRead s20) + (1 : Int32))) fun s21 =>
    some ((gX4_number (gX3_tree (gX5_now s21))), s21)
    )
abbrev rX5_shelf : Room := { frames := 12, cells := 0, slots := 0, locals := 294 }
theorem iX5_shelf_X1 : ∀ w ∈ u_ws RX1 TX1 2, w ∈ wsX5_shelf := fun w h => List.mem_cons_of_mem _ (List.mem_append_left _ (List.mem_append_left _ (List.mem_append_left _ (List.mem_append_left _ (List.mem_append_right _ h)))))
theorem iX5_shelf_X3 : ∀ w ∈ u_ws RX3 TX3 8, w ∈ wsX5_shelf := fun w h => List.mem_cons_of_mem _ (List.mem_append_left _ (List.mem_append_left _ (List.mem_append_left _ (List.mem_append_right _ h))))
theorem iX5_shelf_X4 : ∀ w ∈ u_ws RX4 TX4 12, w ∈ wsX5_shelf := fun w h => List.mem_cons_of_mem _ (List.mem_append_left _ (List.mem_append_left _ (List.mem_append_right _ h)))
theorem iX5_shelf_X5 : ∀ w ∈ u_ws RX5 TX5 7, w ∈ wsX5_shelf := fun w h => List.mem_cons_of_mem _ (List.mem_append_left _ (List.mem_append_left _ (List.mem_append_left _ (List.mem_append_left _ (List.mem_append_left _ (List.mem_append_right _ h))))))
set_option maxHeartbeats 4000000 in
set_option maxRecDepth 100000 in
theorem vX5_shelf_L54 {p : Program} {l : Launch} {e : Env} {s : State} {m : MethodId} {args : Array Value} {below : List Frame} {meth : Method} {c : Code} {σ : Nat → Nat} {D : va_G} {A : Nat → Prop} {cy : ClassId} (q : Nat → Nat) (u1 : Int32) (C : cv_C p s m args c cX5_shelf 3 RX5 wsX5_shelf σ D [(cy, .int)] A) {Q : State → Prop} {j : SX5} : ∀ (n : Nat) (y2 : Int32) (S : SX5), fX5_shelf_L54 u1 n y2 S = some j → cv_V p l e rX5_shelf s m args below meth c 3 D A Q 0 0 (wX5 q cy j) 97 [(0, .ref (q 0))] [] → cv_V p l e rX5_shelf s m args below meth c 3 D A Q 0 0 (wX5 q cy S) 54 [(0, .ref (q 0)), (1, .int u1), (2, .int y2)] [] := by
  intro n
  induction n with
  | zero => intro y2 S hm kx; cases hm
  | succ n ih =>
    intro y2 S hm kx
    have hm : fX5_shelf_L54 u1 (n + 1) y2 S = some j := hm
    unfold fX5_shelf_L54 at hm
    refine cv_iload_n (i := 2) (q := 55) 2 C dX5_shelf_54 rfl rfl rfl ?_
    refine cv_iload_n (i := 1) (q := 56) 1 C dX5_shelf_55 rfl rfl rfl ?_
    refine cv_icmp_ge (tgt := 97) (q := 59) C dX5_shelf_56 (by decide) rfl (fun h9 => ?_) (fun h9 => ?_)
    · have hm := cv_if_t h9 hm
      obtain rfl := Option.some.inj hm
      refine cv_sub [0] rfl ?_
      exact kx
    · have hm := cv_if_f h9 hm
      refine cv_aload_n (i := 0) (q := 60) 0 C dX5_shelf_59 rfl rfl rfl ?_
      refine cv_get (q := 63) C iX5_shelf_X5 0 rfl rfl 1 (by decide) (List.mem_of_getElem? (i := 2) rfl) rfl rfl dX5_shelf_60 rfl ?_
      refine cv_aload_n (i := 0) (q := 64) 0 C dX5_shelf_63 rfl rfl rfl ?_
      refine cv_get (q := 67) C iX5_shelf_X5 0 rfl rfl 0 (by decide) (List.mem_of_getElem? (i := 1) rfl) rfl rfl dX5_shelf_64 rfl ?_
      refine cv_iload_n (i := 2) (q := 68) 2 C dX5_shelf_67 rfl rfl rfl ?_
      obtain ⟨r10, hr10, hm⟩ := cv_bd_s hm
      refine cv_go (q := 71) (ws' := (wX5 q cy S)) C (KX1_kindOf (l := l) (σ := σ) (D := D) (cy := cy)  (cv_sh q 1)  (gX5_page S) y2 hr10) (cv_rv (As := [.int y2]) (st := [.ref (q 3)]) (n := 1) (q0 := 1) (ci := 1) C (KX1_kindOf (l := l) (σ := σ) (D := D) (cy := cy)  (cv_sh q 1)  (gX5_page S) y2 hr10) rfl rfl gX5_shelf_X1_kindOf rfl ⟨rfl, rfl⟩ (by decide +kernel) rfl ⟨Nat.le_of_ble_eq_true rfl, Nat.le_of_ble_eq_true rfl⟩ rfl (Nat.le_of_ble_eq_true rfl) dX5_shelf_68 ⟨Nat.zero_le _, Nat.zero_le _⟩) [1, 2] [0, 3, 4, 5, 6, 7, 8, 9, 10, 11, 12, 13, 14, 15, 16, 17, 18, 19, 20, 21, 22, 23, 24, 25, 26, 27, 28, 29, 30, 31, 32, 33, 34, 35, 36] rfl (wr := cv_pk (wX5 q cy S) [0, 3, 4, 5, 6, 7, 8, 9, 10, 11, 12, 13, 14, 15, 16, 17, 18, 19, 20, 21, 22, 23, 24, 25, 26, 27, 28, 29, 30, 31, 32, 33, 34, 35, 36]) rfl (by decide) (by decide) (by decide) [0, 35, 36, 1, 2, 3, 4, 5, 6, 7, 8, 9, 10, 11, 12, 13, 14, 15, 16, 17, 18, 19, 20, 21, 22, 23, 24, 25, 26, 27, 28, 29, 30, 31, 32, 33, 34] (by decide) rfl rfl ?_
      refine cv_aload_n (i := 0) (q := 72) 0 C dX5_shelf_71 rfl rfl rfl ?_
      refine cv_get (q := 75) C iX5_shelf_X5 0 rfl rfl 0 (by decide) (List.mem_of_getElem? (i := 1) rfl) rfl rfl dX5_shelf_72 rfl ?_
      refine cv_iload_n (i := 2) (q := 76) 2 C dX5_shelf_75 rfl rfl rfl ?_
      obtain ⟨r11, hr11, hm⟩ := cv_bd_s hm
      refine cv_go (q := 79) (ws' := (wX5 q cy S)) C (KX1_keyOf (l := l) (σ := σ) (D := D) (cy := cy)  (cv_sh q 1)  (gX5_page S) y2 hr11) (cv_rv (As := [.int y2]) (st := [.int r10, .ref (q 3)]) (n := 1) (q0 := 1) (ci := 1) C (KX1_keyOf (l := l) (σ := σ) (D := D) (cy := cy)  (cv_sh q 1)  (gX5_page S) y2 hr11) rfl rfl gX5_shelf_X1_keyOf rfl ⟨rfl, rfl⟩ (by decide +kernel) rfl ⟨Nat.le_of_ble_eq_true rfl, Nat.le_of_ble_eq_true rfl⟩ rfl (Nat.le_of_ble_eq_true rfl) dX5_shelf_76 ⟨Nat.zero_le _, Nat.zero_le _⟩) [1, 2] [0, 3, 4, 5, 6, 7, 8, 9, 10, 11, 12, 13, 14, 15, 16, 17, 18, 19, 20, 21, 22, 23, 24, 25, 26, 27, 28, 29, 30, 31, 32, 33, 34, 35, 36] rfl (wr := cv_pk (wX5 q cy S) [0, 3, 4, 5, 6, 7, 8, 9, 10, 11, 12, 13, 14, 15, 16, 17, 18, 19, 20, 21, 22, 23, 24, 25, 26, 27, 28, 29, 30, 31, 32, 33, 34, 35, 36]) rfl (by decide) (by decide) (by decide) [0, 35, 36, 1, 2, 3, 4, 5, 6, 7, 8, 9, 10, 11, 12, 13, 14, 15, 16, 17, 18, 19, 20, 21, 22, 23, 24, 25, 26, 27, 28, 29, 30, 31, 32, 33, 34] (by decide) rfl rfl ?_
      refine cv_aload_n (i := 0) (q := 80) 0 C dX5_shelf_79 rfl rfl rfl ?_
      refine cv_get (q := 83) C iX5_shelf_X5 0 rfl rfl 0 (by decide) (List.mem_of_getElem? (i := 1) rfl) rfl rfl dX5_shelf_80 rfl ?_
      refine cv_iload_n (i := 2) (q := 84) 2 C dX5_shelf_83 rfl rfl rfl ?_
      obtain ⟨r12, hr12, hm⟩ := cv_bd_s hm
      refine cv_go (q := 87) (ws' := (wX5 q cy S)) C (KX1_valueOf (l := l) (σ := σ) (D := D) (cy := cy)  (cv_sh q 1)  (gX5_page S) y2 hr12) (cv_rv (As := [.int y2]) (st := [.int r11, .int r10, .ref (q 3)]) (n := 1) (q0 := 1) (ci := 1) C (KX1_valueOf (l := l) (σ := σ) (D := D) (cy := cy)  (cv_sh q 1)  (gX5_page S) y2 hr12) rfl rfl gX5_shelf_X1_valueOf rfl ⟨rfl, rfl⟩ (by decide +kernel) rfl ⟨Nat.le_of_ble_eq_true rfl, Nat.le_of_ble_eq_true rfl⟩ rfl (Nat.le_of_ble_eq_true rfl) dX5_shelf_84 ⟨Nat.zero_le _, Nat.zero_le _⟩) [1, 2] [0, 3, 4, 5, 6, 7, 8, 9, 10, 11, 12, 13, 14, 15, 16, 17, 18, 19, 20, 21, 22, 23, 24, 25, 26, 27, 28, 29, 30, 31, 32, 33, 34, 35, 36] rfl (wr := cv_pk (wX5 q cy S) [0, 3, 4, 5, 6, 7, 8, 9, 10, 11, 12, 13, 14, 15, 16, 17, 18, 19, 20, 21, 22, 23, 24, 25, 26, 27, 28, 29, 30, 31, 32, 33, 34, 35, 36]) rfl (by decide) (by decide) (by decide) [0, 35, 36, 1, 2, 3, 4, 5, 6, 7, 8, 9, 10, 11, 12, 13, 14, 15, 16, 17, 18, 19, 20, 21, 22, 23, 24, 25, 26, 27, 28, 29, 30, 31, 32, 33, 34] (by decide) rfl rfl ?_
      obtain ⟨r13, hr13, hm⟩ := cv_bd_s hm
      obtain ⟨s14, es14, hm⟩ := cv_lt_s hm
      refine cv_go (q := 90) (ws' := (wX5 q cy s14)) C (KX3_place (l := l) (σ := σ) (D := D) (cy := cy)  (cv_sh q 3)  (gX5_now S) r10 r11 r12 hr13) (cv_rv (As := [.int r10, .int r11, .int r12]) (st := []) (n := 3) (q0 := 3) (ci := 3) C (KX3_place (l := l) (σ := σ) (D := D) (cy := cy)  (cv_sh q 3)  (gX5_now S) r10 r11 r12 hr13) rfl rfl gX5_shelf_X3_place rfl ⟨rfl, rfl⟩ (by decide +kernel) rfl ⟨Nat.le_of_ble_eq_true rfl, Nat.le_of_ble_eq_true rfl⟩ rfl (Nat.le_of_ble_eq_true rfl) dX5_shelf_87 ⟨Nat.zero_le _, Nat.zero_le _⟩) [3, 4, 5, 6, 7, 8, 9, 10, 11, 12, 13, 14, 15, 16] [0, 1, 2, 17, 18, 19, 20, 21, 22, 23, 24, 25, 26, 27, 28, 29, 30, 31, 32, 33, 34, 35, 36] rfl (wr := cv_pk (wX5 q cy S) [0, 1, 2, 17, 18, 19, 20, 21, 22, 23, 24, 25, 26, 27, 28, 29, 30, 31, 32, 33, 34, 35, 36]) rfl (by decide) (by decide) (by decide) [0, 1, 2, 23, 24, 25, 26, 27, 28, 29, 30, 31, 32, 33, 34, 35, 36, 3, 4, 5, 6, 7, 8, 9, 10, 11, 12, 13, 14, 15, 16, 17, 18, 19, 20, 21, 22] (by decide) (by rw [es14]; rfl) rfl ?_
      refine cv_pop (q := 91) C dX5_shelf_90 rfl rfl ?_
      obtain ⟨x15, ex15, hm⟩ := cv_lt_s hm
      refine cv_iinc (v := x15) (lv' := [(2, .int x15), (0, .ref (q 0)), (1, .int u1)]) (q := 94) 2 C dX5_shelf_91 rfl (by rw [ex15]; rfl) (by decide) rfl rfl ?_
      refine cv_goto (tgt := 54) C dX5_shelf_94 (by decide) ?_
      refine cv_sub [1, 2, 0] rfl ?_
      exact ih x15 s14 hm kx
set_option maxHeartbeats 4000000 in
set_option maxRecDepth 100000 in
theorem KX5_shelf {l : Launch} {σ : Nat → Nat} {D : va_G} {cy : ClassId} (q : Nat → Nat) (S : SX5) {res : Int32 × SX5} (hm : fX5_shelf S = some res) : cv_M l yX5_shelf wsX5_shelf rX5_shelf σ D [(cy, .int)] [.ref (q 0)] (wX5 q cy S) (some (.int res.1)) (wX5 q cy res.2) := by
  unfold fX5_shelf at hm
  refine cv_M.of (own := RX5) (by decide +kernel) rfl rfl (lv := [(0, .ref (q 0))]) rfl (Nat.le_of_ble_eq_true rfl) ?_
  intro p e s m args below meth c A C hr hk
  refine cv_aload_n (i := 0) (q := 1) 0 C dX5_shelf_0 rfl rfl rfl ?_
  refine cv_get (q := 4) C iX5_shelf_X5 0 rfl rfl 0 (by decide) (List.mem_of_getElem? (i := 1) rfl) rfl rfl dX5_shelf_1 rfl ?_
  obtain ⟨r1, hr1, hm⟩ := cv_bd_s hm
  refine cv_go (q := 7) (ws' := (wX5 q cy S)) C (KX1_isShelf (l := l) (σ := σ) (D := D) (cy := cy)  (cv_sh q 1)  (gX5_page S)  hr1) (cv_rv (As := []) (st := []) (n := 0) (q0 := 1) (ci := 1) C (KX1_isShelf (l := l) (σ := σ) (D := D) (cy := cy)  (cv_sh q 1)  (gX5_page S)  hr1) rfl rfl gX5_shelf_X1_isShelf rfl ⟨rfl, rfl⟩ (by decide +kernel) rfl ⟨Nat.le_of_ble_eq_true rfl, Nat.le_of_ble_eq_true rfl⟩ rfl (Nat.le_of_ble_eq_true rfl) dX5_shelf_4 ⟨Nat.zero_le _, Nat.zero_le _⟩) [1, 2] [0, 3, 4, 5, 6, 7, 8, 9, 10, 11, 12, 13, 14, 15, 16, 17, 18, 19, 20, 21, 22, 23, 24, 25, 26, 27, 28, 29, 30, 31, 32, 33, 34, 35, 36] rfl (wr := cv_pk (wX5 q cy S) [0, 3, 4, 5, 6, 7, 8, 9, 10, 11, 12, 13, 14, 15, 16, 17, 18, 19, 20, 21, 22, 23, 24, 25, 26, 27, 28, 29, 30, 31, 32, 33, 34, 35, 36]) rfl (by decide) (by decide) (by decide) [0, 35, 36, 1, 2, 3, 4, 5, 6, 7, 8, 9, 10, 11, 12, 13, 14, 15, 16, 17, 18, 19, 20, 21, 22, 23, 24, 25, 26, 27, 28, 29, 30, 31, 32, 33, 34] (by decide) rfl rfl ?_
  refine cv_if_ne (tgt := 13) (q := 10) C dX5_shelf_7 (by decide) rfl (fun h2 => ?_) (fun h2 => ?_)
  · have hm := cv_if_f h2 hm
    refine cv_aload_n (i := 0) (q := 14) 0 C dX5_shelf_13 rfl rfl rfl ?_
    refine cv_get (q := 17) C iX5_shelf_X5 0 rfl rfl 1 (by decide) (List.mem_of_getElem? (i := 2) rfl) rfl rfl dX5_shelf_14 rfl ?_
    refine cv_aload_n (i := 0) (q := 18) 0 C dX5_shelf_17 rfl rfl rfl ?_
    refine cv_get (q := 21) C iX5_shelf_X5 0 rfl rfl 0 (by decide) (List.mem_of_getElem? (i := 1) rfl) rfl rfl dX5_shelf_18 rfl ?_
    refine cv_iconst (v := 0) (q := 22) C dX5_shelf_21 (by decide) rfl ?_
    obtain ⟨r3, hr3, hm⟩ := cv_bd_s hm
    refine cv_go (q := 25) (ws' := (wX5 q cy S)) C (KX1_digit (l := l) (σ := σ) (D := D) (cy := cy)  (cv_sh q 1)  (gX5_page S) (0 : Int32) hr3) (cv_rv (As := [.int (0 : Int32)]) (st := [.ref (q 3)]) (n := 1) (q0 := 1) (ci := 1) C (KX1_digit (l := l) (σ := σ) (D := D) (cy := cy)  (cv_sh q 1)  (gX5_page S) (0 : Int32) hr3) rfl rfl gX5_shelf_X1_digit rfl ⟨rfl, rfl⟩ (by decide +kernel) rfl ⟨Nat.le_of_ble_eq_true rfl, Nat.le_of_ble_eq_true rfl⟩ rfl (Nat.le_of_ble_eq_true rfl) dX5_shelf_22 ⟨Nat.zero_le _, Nat.zero_le _⟩) [1, 2] [0, 3, 4, 5, 6, 7, 8, 9, 10, 11, 12, 13, 14, 15, 16, 17, 18, 19, 20, 21, 22, 23, 24, 25, 26, 27, 28, 29, 30, 31, 32, 33, 34, 35, 36] rfl (wr := cv_pk (wX5 q cy S) [0, 3, 4, 5, 6, 7, 8, 9, 10, 11, 12, 13, 14, 15, 16, 17, 18, 19, 20, 21, 22, 23, 24, 25, 26, 27, 28, 29, 30, 31, 32, 33, 34, 35, 36]) rfl (by decide) (by decide) (by decide) [0, 35, 36, 1, 2, 3, 4, 5, 6, 7, 8, 9, 10, 11, 12, 13, 14, 15, 16, 17, 18, 19, 20, 21, 22, 23, 24, 25, 26, 27, 28, 29, 30, 31, 32, 33, 34] (by decide) rfl rfl ?_
    refine cv_aload_n (i := 0) (q := 26) 0 C dX5_shelf_25 rfl rfl rfl ?_
    refine cv_get (q := 29) C iX5_shelf_X5 0 rfl rfl 0 (by decide) (List.mem_of_getElem? (i := 1) rfl) rfl rfl dX5_shelf_26 rfl ?_
    refine cv_iconst (v := 1) (q := 30) C dX5_shelf_29 (by decide) rfl ?_
    obtain ⟨r4, hr4, hm⟩ := cv_bd_s hm
    refine cv_go (q := 33) (ws' := (wX5 q cy S)) C (KX1_digit (l := l) (σ := σ) (D := D) (cy := cy)  (cv_sh q 1)  (gX5_page S) (1 : Int32) hr4) (cv_rv (As := [.int (1 : Int32)]) (st := [.int r3, .ref (q 3)]) (n := 1) (q0 := 1) (ci := 1) C (KX1_digit (l := l) (σ := σ) (D := D) (cy := cy)  (cv_sh q 1)  (gX5_page S) (1 : Int32) hr4) rfl rfl gX5_shelf_X1_digit rfl ⟨rfl, rfl⟩ (by decide +kernel) rfl ⟨Nat.le_of_ble_eq_true rfl, Nat.le_of_ble_eq_true rfl⟩ rfl (Nat.le_of_ble_eq_true rfl) dX5_shelf_30 ⟨Nat.zero_le _, Nat.zero_le _⟩) [1, 2] [0, 3, 4, 5, 6, 7, 8, 9, 10, 11, 12, 13, 14, 15, 16, 17, 18, 19, 20, 21, 22, 23, 24, 25, 26, 27, 28, 29, 30, 31, 32, 33, 34, 35, 36] rfl (wr := cv_pk (wX5 q cy S) [0, 3, 4, 5, 6, 7, 8, 9, 10, 11, 12, 13, 14, 15, 16, 17, 18, 19, 20, 21, 22, 23, 24, 25, 26, 27, 28, 29, 30, 31, 32, 33, 34, 35, 36]) rfl (by decide) (by decide) (by decide) [0, 35, 36, 1, 2, 3, 4, 5, 6, 7, 8, 9, 10, 11, 12, 13, 14, 15, 16, 17, 18, 19, 20, 21, 22, 23, 24, 25, 26, 27, 28, 29, 30, 31, 32, 33, 34] (by decide) rfl rfl ?_
    refine cv_aload_n (i := 0) (q := 34) 0 C dX5_shelf_33 rfl rfl rfl ?_
    refine cv_get (q := 37) C iX5_shelf_X5 0 rfl rfl 0 (by decide) (List.mem_of_getElem? (i := 1) rfl) rfl rfl dX5_shelf_34 rfl ?_
    refine cv_iconst (v := 3) (q := 38) C dX5_shelf_37 (by decide) rfl ?_
    obtain ⟨r5, hr5, hm⟩ := cv_bd_s hm
    refine cv_go (q := 41) (ws' := (wX5 q cy S)) C (KX1_digit (l := l) (σ := σ) (D := D) (cy := cy)  (cv_sh q 1)  (gX5_page S) (3 : Int32) hr5) (cv_rv (As := [.int (3 : Int32)]) (st := [.int r4, .int r3, .ref (q 3)]) (n := 1) (q0 := 1) (ci := 1) C (KX1_digit (l := l) (σ := σ) (D := D) (cy := cy)  (cv_sh q 1)  (gX5_page S) (3 : Int32) hr5) rfl rfl gX5_shelf_X1_digit rfl ⟨rfl, rfl⟩ (by decide +kernel) rfl ⟨Nat.le_of_ble_eq_true rfl, Nat.le_of_ble_eq_true rfl⟩ rfl (Nat.le_of_ble_eq_true rfl) dX5_shelf_38 ⟨Nat.zero_le _, Nat.zero_le _⟩) [1, 2] [0, 3, 4, 5, 6, 7, 8, 9, 10, 11, 12, 13, 14, 15, 16, 17, 18, 19, 20, 21, 22, 23, 24, 25, 26, 27, 28, 29, 30, 31, 32, 33, 34, 35, 36] rfl (wr := cv_pk (wX5 q cy S) [0, 3, 4, 5, 6, 7, 8, 9, 10, 11, 12, 13, 14, 15, 16, 17, 18, 19, 20, 21, 22, 23, 24, 25, 26, 27, 28, 29, 30, 31, 32, 33, 34, 35, 36]) rfl (by decide) (by decide) (by decide) [0, 35, 36, 1, 2, 3, 4, 5, 6, 7, 8, 9, 10, 11, 12, 13, 14, 15, 16, 17, 18, 19, 20, 21, 22, 23, 24, 25, 26, 27, 28, 29, 30, 31, 32, 33, 34] (by decide) rfl rfl ?_
    obtain ⟨r6, hr6, hm⟩ := cv_bd_s hm
    obtain ⟨s7, es7, hm⟩ := cv_lt_s hm
    refine cv_go (q := 44) (ws' := (wX5 q cy s7)) C (KX3_begin (l := l) (σ := σ) (D := D) (cy := cy)  (cv_sh q 3)  (gX5_now S) r3 r4 r5 hr6) (cv_rv (As := [.int r3, .int r4, .int r5]) (st := []) (n := 3) (q0 := 3) (ci := 3) C (KX3_begin (l := l) (σ := σ) (D := D) (cy := cy)  (cv_sh q 3)  (gX5_now S) r3 r4 r5 hr6) rfl rfl gX5_shelf_X3_begin rfl ⟨rfl, rfl⟩ (by decide +kernel) rfl ⟨Nat.le_of_ble_eq_true rfl, Nat.le_of_ble_eq_true rfl⟩ rfl (Nat.le_of_ble_eq_true rfl) dX5_shelf_41 ⟨Nat.zero_le _, Nat.zero_le _⟩) [3, 4, 5, 6, 7, 8, 9, 10, 11, 12, 13, 14, 15, 16] [0, 1, 2, 17, 18, 19, 20, 21, 22, 23, 24, 25, 26, 27, 28, 29, 30, 31, 32, 33, 34, 35, 36] rfl (wr := cv_pk (wX5 q cy S) [0, 1, 2, 17, 18, 19, 20, 21, 22, 23, 24, 25, 26, 27, 28, 29, 30, 31, 32, 33, 34, 35, 36]) rfl (by decide) (by decide) (by decide) [0, 1, 2, 23, 24, 25, 26, 27, 28, 29, 30, 31, 32, 33, 34, 35, 36, 3, 4, 5, 6, 7, 8, 9, 10, 11, 12, 13, 14, 15, 16, 17, 18, 19, 20, 21, 22] (by decide) (by rw [es7]; rfl) rfl ?_
    refine cv_aload_n (i := 0) (q := 45) 0 C dX5_shelf_44 rfl rfl rfl ?_
    refine cv_get (q := 48) C iX5_shelf_X5 0 rfl rfl 0 (by decide) (List.mem_of_getElem? (i := 1) rfl) rfl rfl dX5_shelf_45 rfl ?_
    obtain ⟨r8, hr8, hm⟩ := cv_bd_s hm
    refine cv_go (q := 51) (ws' := (wX5 q cy s7)) C (KX1_entries (l := l) (σ := σ) (D := D) (cy := cy)  (cv_sh q 1)  (gX5_page s7)  hr8) (cv_rv (As := []) (st := []) (n := 0) (q0 := 1) (ci := 1) C (KX1_entries (l := l) (σ := σ) (D := D) (cy := cy)  (cv_sh q 1)  (gX5_page s7)  hr8) rfl rfl gX5_shelf_X1_entries rfl ⟨rfl, rfl⟩ (by decide +kernel) rfl ⟨Nat.le_of_ble_eq_true rfl, Nat.le_of_ble_eq_true rfl⟩ rfl (Nat.le_of_ble_eq_true rfl) dX5_shelf_48 ⟨Nat.zero_le _, Nat.zero_le _⟩) [1, 2] [0, 3, 4, 5, 6, 7, 8, 9, 10, 11, 12, 13, 14, 15, 16, 17, 18, 19, 20, 21, 22, 23, 24, 25, 26, 27, 28, 29, 30, 31, 32, 33, 34, 35, 36] rfl (wr := cv_pk (wX5 q cy s7) [0, 3, 4, 5, 6, 7, 8, 9, 10, 11, 12, 13, 14, 15, 16, 17, 18, 19, 20, 21, 22, 23, 24, 25, 26, 27, 28, 29, 30, 31, 32, 33, 34, 35, 36]) rfl (by decide) (by decide) (by decide) [0, 35, 36, 1, 2, 3, 4, 5, 6, 7, 8, 9, 10, 11, 12, 13, 14, 15, 16, 17, 18, 19, 20, 21, 22, 23, 24, 25, 26, 27, 28, 29, 30, 31, 32, 33, 34] (by decide) rfl rfl ?_
    refine cv_istore_n (i := 1) (lv' := [(1, .int r8), (0, .ref (q 0))]) (q := 52) C dX5_shelf_51 rfl (by decide) rfl rfl ?_
    refine cv_iconst (v := 0) (q := 53) C dX5_shelf_52 (by decide) rfl ?_
    refine cv_istore_n (i := 2) (lv' := [(2, .int (0 : Int32)), (1, .int r8), (0, .ref (q 0))]) (q := 54) C dX5_shelf_53 rfl (by decide) rfl rfl ?_
    obtain ⟨j16, hj16, hm⟩ := cv_bd_s hm
    refine cv_cut (ws' := (wX5 q cy j16)) (pc' := 97) (lv' := [(0, .ref (q 0))]) (st' := []) ?_ (fun K17 => ?_)
    · refine cv_aload_n (i := 0) (q := 98) 0 C dX5_shelf_97 rfl rfl rfl ?_
      refine cv_get (q := 101) C iX5_shelf_X5 0 rfl rfl 0 (by decide) (List.mem_of_getElem? (i := 1) rfl) rfl rfl dX5_shelf_98 rfl ?_
      refine cv_iconst (v := 0) (q := 102) C dX5_shelf_101 (by decide) rfl ?_
      obtain ⟨s18, es18, hm⟩ := cv_lt_s hm
      refine cv_put (q := 105) (ws' := (wX5 q cy s18)) C iX5_shelf_X1 tyX1 tyX1_ok nmX1 1 rfl rfl 1 (by decide) (List.mem_of_getElem? (i := 3) rfl) rfl rfl rfl rfl rfl (Nat.le_of_ble_eq_true rfl) dX5_shelf_102 rfl (by rw [es18]; rfl) ?_
      refine cv_aload_n (i := 0) (q := 106) 0 C dX5_shelf_105 rfl rfl rfl ?_
      refine cv_iconst (v := 1) (q := 107) C dX5_shelf_106 (by decide) rfl ?_
      obtain ⟨s19, es19, hm⟩ := cv_lt_s hm
      refine cv_put (q := 110) (ws' := (wX5 q cy s19)) C iX5_shelf_X5 tyX5 tyX5_ok nmX5 0 rfl rfl 4 (by decide) (List.mem_of_getElem? (i := 4) rfl) rfl rfl rfl (by decide) (by decide) (Nat.le_of_ble_eq_true rfl) dX5_shelf_107 rfl (by rw [es19]; rfl) ?_
      refine cv_aload_n (i := 0) (q := 111) 0 C dX5_shelf_110 rfl rfl rfl ?_
      refine cv_iconst (v := 0) (q := 112) C dX5_shelf_111 (by decide) rfl ?_
      obtain ⟨s20, es20, hm⟩ := cv_lt_s hm
      refine cv_put (q := 115) (ws' := (wX5 q cy s20)) C iX5_shelf_X5 tyX5 tyX5_ok nmX5 0 rfl rfl 5 (by decide) (List.mem_of_getElem? (i := 5) rfl) rfl rfl rfl (by decide) (by decide) (Nat.le_of_ble_eq_true rfl) dX5_shelf_112 rfl (by rw [es20]; rfl) ?_
      refine cv_aload_n (i := 0) (q := 116) 0 C dX5_shelf_115 rfl rfl rfl ?_
      refine cv_dup (q := 117) C dX5_shelf_116 rfl rfl ?_
      refine cv_get (q := 120) C iX5_shelf_X5 0 rfl rfl 6 (by decide) (List.mem_of_getElem? (i := 6) rfl) rfl rfl dX5_shelf_117 rfl ?_
      refine cv_iconst (v := 1) (q := 121) C dX5_shelf_120 (by decide) rfl ?_
      refine cv_iadd (q := 122) C dX5_shelf_121 rfl ?_
      obtain ⟨s21, es21, hm⟩ := cv_lt_s hm
      refine cv_put (q := 125) (ws' := (wX5 q cy s21)) C iX5_shelf_X5 tyX5 tyX5_ok nmX5 0 rfl rfl 6 (by decide) (List.mem_of_getElem? (i := 6) rfl) rfl rfl rfl rfl rfl (Nat.le_of_ble_eq_true rfl) dX5_shelf_122 rfl (by rw [es21]; rfl) ?_
      refine cv_aload_n (i := 0) (q := 126) 0 C dX5_shelf_125 rfl rfl rfl ?_
      refine cv_get (q := 129) C iX5_shelf_X5 0 rfl rfl 1 (by decide) (List.mem_of_getElem? (i := 2) rfl) rfl rfl dX5_shelf_126 rfl ?_
      refine cv_get (q := 132) C iX5_shelf_X3 3 rfl rfl 0 (by decide) (List.mem_of_getElem? (i := 7) rfl) rfl rfl dX5_shelf_129 rfl ?_
      refine cv_get (q := 135) C iX5_shelf_X4 4 rfl rfl 8 (by decide) (List.mem_of_getElem? (i := 8) rfl) rfl rfl dX5_shelf_132 rfl ?_
      obtain rfl := Option.some.inj hm
      exact cv_iret C hr hk dX5_shelf_135
    · refine cv_sub [2, 1, 0] rfl ?_
      exact vX5_shelf_L54 q r8 C 256 (0 : Int32) s7 hj16 K17
  · have hm := cv_if_t h2 hm
    refine cv_bipush (v := -103) (q := 12) C dX5_shelf_10 (by decide) rfl ?_
    obtain rfl := Option.some.inj hm
    exact cv_iret C hr hk dX5_shelf_12
def fX5_entry (S : SX5) (a1 : Int32) (a2 : Int32) : Option (Int32 × SX5) :=
  cv_bd (fX4_has (gX3_tree (gX5_now S)) a1) fun r1 =>
  if r1 = 0 then
    (
    some ((-101 : Int32), S)
    )
  else
    (
    if a2 = 0 then
      (
      cv_gd (0 ≤ (a1).toInt ∧ (a1).toInt < 100) <|
      some (((gX3_kinds (gX5_now S)) (a1).toNatClampNeg), S)
      )
    else
      (
      if a2 = 1 then
        (
        cv_gd (0 ≤ (a1).toInt ∧ (a1).toInt < 100) <|
        some (((gX3_values (gX5_now S)) (a1).toNatClampNeg), S)
        )
      else
        (
        if a2 = 2 then
          (
          cv_bd (fX4_walk (gX3_tree (gX5_now S)) a1) fun r8 =>
          cv_lt (sX5_now S (sX3_tree (gX5_now S) r8.2)) fun s9 =>
          some ((r8.1 - (1 : Int32)), s9)
          )
        else
          (
          if a2 = 3 then
            (
            cv_gd (0 ≤ (a1).toInt ∧ (a1).toInt < 100) <|
            some (((gX4_sizes (gX3_tree (gX5_now S))) (a1).toNatClampNeg), S)
            )
          else
            (
            if a2 = 4 then
              (
              cv_gd (0 ≤ (a1).toInt ∧ (a1).toInt < 100) <|
              some (((gX4_lefts (gX3_tree (gX5_now S))) (a1).toNatClampNeg), S)
              )
            else
              (
              if a2 = 5 then
                (
                cv_gd (0 ≤ (a1).toInt ∧ (a1).toInt < 100) <|
                some (((gX4_rights (gX3_tree (gX5_now S))) (a1).toNatClampNeg), S)
                )
              else
                (
                if a2 = 6 then
                  (
                  cv_bd (fX4_above (gX3_tree (gX5_now S)) a1) fun r17 =>
                  cv_lt (sX5_now S (sX3_tree (gX5_now S) r17.2)) fun s18 =>
                  some (r17.1, s18)
                  )
                else
                  (
                  if a2 = 7 then
                    (
                    cv_bd (fX4_lesser (gX3_tree (gX5_now S)) a1) fun r20 =>
                    some (r20, S)
                    )
                  else
                    (
                    some ((-102 : Int32), S)
                    )
                  )
                )
              )
            )
          )
        )
      )
    )
abbrev rX5_entry : Room := { frames := 3, cells := 0, slots := 0, locals := 65 }
theorem iX5_entry_X3 : ∀ w ∈ u_ws RX3 TX3 8, w ∈ wsX5_entry := fun w h => List.mem_cons_of_mem _ (List.mem_append_left _ (List.mem_append_right _ h))
theorem iX5_entry_X4 : ∀ w ∈ u_ws RX4 TX4 12, w ∈ wsX5_entry := fun w h => List.mem_cons_of_mem _ (List.mem_append_right _ h)
theorem iX5_entry_X5 : ∀ w ∈ u_ws RX5 TX5 7, w ∈ wsX5_entry := fun w h => List.mem_cons_of_mem _ (List.mem_append_left _ (List.mem_append_left _ (List.mem_append_right _ h)))
set_option maxHeartbeats 4000000 in
set_option maxRecDepth 100000 in
theorem KX5_entry {l : Launch} {σ : Nat → Nat} {D : va_G} {cy : ClassId} (q : Nat → Nat) (S : SX5) (a1 : Int32) (a2 : Int32) {res : Int32 × SX5} (hm : fX5_entry S a1 a2 = some res) : cv_M l yX5_entry wsX5_entry rX5_entry σ D [(cy, .int)] [.ref (q 0), .int a1, .int a2] (wX5 q cy S) (some (.int res.1)) (wX5 q cy res.2) := by
  unfold fX5_entry at hm
  refine cv_M.of (own := RX5) (by decide +kernel) rfl rfl (lv := [(0, .ref (q 0)), (1, .int a1), (2, .int a2)]) rfl (Nat.le_of_ble_eq_true rfl) ?_
  intro p e s m args below meth c A C hr hk
  refine cv_aload_n (i := 0) (q := 1) 0 C dX5_entry_0 rfl rfl rfl ?_
  refine cv_get (q := 4) C iX5_entry_X5 0 rfl rfl 1 (by decide) (List.mem_of_getElem? (i := 1) rfl) rfl rfl dX5_entry_1 rfl ?_
  refine cv_get (q := 7) C iX5_entry_X3 3 rfl rfl 0 (by decide) (List.mem_of_getElem? (i := 2) rfl) rfl rfl dX5_entry_4 rfl ?_
  refine cv_astore_n (i := 3) (lv' := [(3, .ref (q 4)), (0, .ref (q 0)), (1, .int a1), (2, .int a2)]) (q := 8) C dX5_entry_7 rfl (by decide) rfl rfl ?_
  refine cv_aload_n (i := 3) (q := 9) 0 C dX5_entry_8 rfl rfl rfl ?_
  refine cv_iload_n (i := 1) (q := 10) 2 C dX5_entry_9 rfl rfl rfl ?_
  obtain ⟨r1, hr1, hm⟩ := cv_bd_s hm
  refine cv_go (q := 13) (ws' := (wX5 q cy S)) C (KX4_has (l := l) (σ := σ) (D := D) (cy := cy)  (cv_sh q 4)  (gX3_tree (gX5_now S)) a1 hr1) (cv_rv (As := [.int a1]) (st := []) (n := 1) (q0 := 4) (ci := 4) C (KX4_has (l := l) (σ := σ) (D := D) (cy := cy)  (cv_sh q 4)  (gX3_tree (gX5_now S)) a1 hr1) rfl rfl gX5_entry_X4_has rfl ⟨rfl, rfl⟩ (by decide +kernel) rfl ⟨Nat.le_of_ble_eq_true rfl, Nat.le_of_ble_eq_true rfl⟩ rfl (Nat.le_of_ble_eq_true rfl) dX5_entry_10 ⟨Nat.zero_le _, Nat.zero_le _⟩) [4, 5, 6, 7, 8, 9] [0, 1, 2, 3, 10, 11, 12, 13, 14, 15, 16, 17, 18, 19, 20, 21, 22, 23, 24, 25, 26, 27, 28, 29, 30, 31, 32, 33, 34, 35, 36] rfl (wr := cv_pk (wX5 q cy S) [0, 1, 2, 3, 10, 11, 12, 13, 14, 15, 16, 17, 18, 19, 20, 21, 22, 23, 24, 25, 26, 27, 28, 29, 30, 31, 32, 33, 34, 35, 36]) rfl (by decide) (by decide) (by decide) [0, 1, 2, 3, 31, 32, 33, 34, 35, 36, 4, 5, 6, 7, 8, 9, 10, 11, 12, 13, 14, 15, 16, 17, 18, 19, 20, 21, 22, 23, 24, 25, 26, 27, 28, 29, 30] (by decide) rfl rfl ?_
  refine cv_if_ne (tgt := 19) (q := 16) C dX5_entry_13 (by decide) rfl (fun h2 => ?_) (fun h2 => ?_)
  · have hm := cv_if_f h2 hm
    refine cv_iload_n (i := 2) (q := 20) 3 C dX5_entry_19 rfl rfl rfl ?_
    by_cases h3 : a2 = 0
    · have hm := cv_if_t h3 hm
      refine cv_tin (tgt := 68) 0 C dX5_entry_20 h3 (by decide) (by decide) rfl (by decide) ?_
      refine cv_aload_n (i := 0) (q := 69) 1 C dX5_entry_68 rfl rfl rfl ?_
      refine cv_get (q := 72) C iX5_entry_X5 0 rfl rfl 1 (by decide) (List.mem_of_getElem? (i := 1) rfl) rfl rfl dX5_entry_69 rfl ?_
      refine cv_get (q := 75) C iX5_entry_X3 3 rfl rfl 1 (by decide) (List.mem_of_getElem? (i := 3) rfl) rfl rfl dX5_entry_72 rfl ?_
      refine cv_iload_n (i := 1) (q := 76) 2 C dX5_entry_75 rfl rfl rfl ?_
      obtain ⟨g4, hm⟩ := cv_gd_s hm
      refine cv_iald (q := 77) C 10 0 rfl rfl (vp_in_iff.mpr g4) dX5_entry_76 rfl ?_
      obtain rfl := Option.some.inj hm
      exact cv_iret C hr hk dX5_entry_77
    · have hm := cv_if_f h3 hm
      by_cases h5 : a2 = 1
      · have hm := cv_if_t h5 hm
        refine cv_tin (tgt := 78) 1 C dX5_entry_20 h5 (by decide) (by decide) rfl (by decide) ?_
        refine cv_aload_n (i := 0) (q := 79) 1 C dX5_entry_78 rfl rfl rfl ?_
        refine cv_get (q := 82) C iX5_entry_X5 0 rfl rfl 1 (by decide) (List.mem_of_getElem? (i := 1) rfl) rfl rfl dX5_entry_79 rfl ?_
        refine cv_get (q := 85) C iX5_entry_X3 3 rfl rfl 2 (by decide) (List.mem_of_getElem? (i := 4) rfl) rfl rfl dX5_entry_82 rfl ?_
        refine cv_iload_n (i := 1) (q := 86) 2 C dX5_entry_85 rfl rfl rfl ?_
        obtain ⟨g6, hm⟩ := cv_gd_s hm
        refine cv_iald (q := 87) C 11 0 rfl rfl (vp_in_iff.mpr g6) dX5_entry_86 rfl ?_
        obtain rfl := Option.some.inj hm
        exact cv_iret C hr hk dX5_entry_87
      · have hm := cv_if_f h5 hm
        by_cases h7 : a2 = 2
        · have hm := cv_if_t h7 hm
          refine cv_tin (tgt := 88) 2 C dX5_entry_20 h7 (by decide) (by decide) rfl (by decide) ?_
          refine cv_aload_n (i := 3) (q := 89) 0 C dX5_entry_88 rfl rfl rfl ?_
          refine cv_iload_n (i := 1) (q := 90) 2 C dX5_entry_89 rfl rfl rfl ?_
          obtain ⟨r8, hr8, hm⟩ := cv_bd_s hm
          obtain ⟨s9, es9, hm⟩ := cv_lt_s hm
          refine cv_go (q := 93) (ws' := (wX5 q cy s9)) C (KX4_walk (l := l) (σ := σ) (D := D) (cy := cy)  (cv_sh q 4)  (gX3_tree (gX5_now S)) a1 hr8) (cv_rv (As := [.int a1]) (st := []) (n := 1) (q0 := 4) (ci := 4) C (KX4_walk (l := l) (σ := σ) (D := D) (cy := cy)  (cv_sh q 4)  (gX3_tree (gX5_now S)) a1 hr8) rfl rfl gX5_entry_X4_walk rfl ⟨rfl, rfl⟩ (by decide +kernel) rfl ⟨Nat.le_of_ble_eq_true rfl, Nat.le_of_ble_eq_true rfl⟩ rfl (Nat.le_of_ble_eq_true rfl) dX5_entry_90 ⟨Nat.zero_le _, Nat.zero_le _⟩) [4, 5, 6, 7, 8, 9] [0, 1, 2, 3, 10, 11, 12, 13, 14, 15, 16, 17, 18, 19, 20, 21, 22, 23, 24, 25, 26, 27, 28, 29, 30, 31, 32, 33, 34, 35, 36] rfl (wr := cv_pk (wX5 q cy S) [0, 1, 2, 3, 10, 11, 12, 13, 14, 15, 16, 17, 18, 19, 20, 21, 22, 23, 24, 25, 26, 27, 28, 29, 30, 31, 32, 33, 34, 35, 36]) rfl (by decide) (by decide) (by decide) [0, 1, 2, 3, 31, 32, 33, 34, 35, 36, 4, 5, 6, 7, 8, 9, 10, 11, 12, 13, 14, 15, 16, 17, 18, 19, 20, 21, 22, 23, 24, 25, 26, 27, 28, 29, 30] (by decide) (by rw [es9]; rfl) rfl ?_
          refine cv_iconst (v := 1) (q := 94) C dX5_entry_93 (by decide) rfl ?_
          refine cv_isub (q := 95) C dX5_entry_94 rfl ?_
          obtain rfl := Option.some.inj hm
          exact cv_iret C hr hk dX5_entry_95
        · have hm := cv_if_f h7 hm
          by_cases h10 : a2 = 3
          · have hm := cv_if_t h10 hm
            refine cv_tin (tgt := 96) 3 C dX5_entry_20 h10 (by decide) (by decide) rfl (by decide) ?_
            refine cv_aload_n (i := 3) (q := 97) 0 C dX5_entry_96 rfl rfl rfl ?_
            refine cv_get (q := 100) C iX5_entry_X4 4 rfl rfl 2 (by decide) (List.mem_of_getElem? (i := 5) rfl) rfl rfl dX5_entry_97 rfl ?_
            refine cv_iload_n (i := 1) (q := 101) 2 C dX5_entry_100 rfl rfl rfl ?_
            obtain ⟨g11, hm⟩ := cv_gd_s hm
            refine cv_iald (q := 102) C 7 0 rfl rfl (vp_in_iff.mpr g11) dX5_entry_101 rfl ?_
            obtain rfl := Option.some.inj hm
            exact cv_iret C hr hk dX5_entry_102
          · have hm := cv_if_f h10 hm
            by_cases h12 : a2 = 4
            · have hm := cv_if_t h12 hm
              refine cv_tin (tgt := 103) 4 C dX5_entry_20 h12 (by decide) (by decide) rfl (by decide) ?_
              refine cv_aload_n (i := 3) (q := 104) 0 C dX5_entry_103 rfl rfl rfl ?_
              refine cv_get (q := 107) C iX5_entry_X4 4 rfl rfl 0 (by decide) (List.mem_of_getElem? (i := 6) rfl) rfl rfl dX5_entry_104 rfl ?_
              refine cv_iload_n (i := 1) (q := 108) 2 C dX5_entry_107 rfl rfl rfl ?_
              obtain ⟨g13, hm⟩ := cv_gd_s hm
              refine cv_iald (q := 109) C 5 0 rfl rfl (vp_in_iff.mpr g13) dX5_entry_108 rfl ?_
              obtain rfl := Option.some.inj hm
              exact cv_iret C hr hk dX5_entry_109
            · have hm := cv_if_f h12 hm
              by_cases h14 : a2 = 5
              · have hm := cv_if_t h14 hm
                refine cv_tin (tgt := 110) 5 C dX5_entry_20 h14 (by decide) (by decide) rfl (by decide) ?_
                refine cv_aload_n (i := 3) (q := 111) 0 C dX5_entry_110 rfl rfl rfl ?_
                refine cv_get (q := 114) C iX5_entry_X4 4 rfl rfl 1 (by decide) (List.mem_of_getElem? (i := 7) rfl) rfl rfl dX5_entry_111 rfl ?_
                refine cv_iload_n (i := 1) (q := 115) 2 C dX5_entry_114 rfl rfl rfl ?_
                obtain ⟨g15, hm⟩ := cv_gd_s hm
                refine cv_iald (q := 116) C 6 0 rfl rfl (vp_in_iff.mpr g15) dX5_entry_115 rfl ?_
                obtain rfl := Option.some.inj hm
                exact cv_iret C hr hk dX5_entry_116
              · have hm := cv_if_f h14 hm
                by_cases h16 : a2 = 6
                · have hm := cv_if_t h16 hm
                  refine cv_tin (tgt := 117) 6 C dX5_entry_20 h16 (by decide) (by decide) rfl (by decide) ?_
                  refine cv_aload_n (i := 3) (q := 118) 0 C dX5_entry_117 rfl rfl rfl ?_
                  refine cv_iload_n (i := 1) (q := 119) 2 C dX5_entry_118 rfl rfl rfl ?_
                  obtain ⟨r17, hr17, hm⟩ := cv_bd_s hm
                  obtain ⟨s18, es18, hm⟩ := cv_lt_s hm
                  refine cv_go (q := 122) (ws' := (wX5 q cy s18)) C (KX4_above (l := l) (σ := σ) (D := D) (cy := cy)  (cv_sh q 4)  (gX3_tree (gX5_now S)) a1 hr17) (cv_rv (As := [.int a1]) (st := []) (n := 1) (q0 := 4) (ci := 4) C (KX4_above (l := l) (σ := σ) (D := D) (cy := cy)  (cv_sh q 4)  (gX3_tree (gX5_now S)) a1 hr17) rfl rfl gX5_entry_X4_above rfl ⟨rfl, rfl⟩ (by decide +kernel) rfl ⟨Nat.le_of_ble_eq_true rfl, Nat.le_of_ble_eq_true rfl⟩ rfl (Nat.le_of_ble_eq_true rfl) dX5_entry_119 ⟨Nat.zero_le _, Nat.zero_le _⟩) [4, 5, 6, 7, 8, 9] [0, 1, 2, 3, 10, 11, 12, 13, 14, 15, 16, 17, 18, 19, 20, 21, 22, 23, 24, 25, 26, 27, 28, 29, 30, 31, 32, 33, 34, 35, 36] rfl (wr := cv_pk (wX5 q cy S) [0, 1, 2, 3, 10, 11, 12, 13, 14, 15, 16, 17, 18, 19, 20, 21, 22, 23, 24, 25, 26, 27, 28, 29, 30, 31, 32, 33, 34, 35, 36]) rfl (by decide) (by decide) (by decide) [0, 1, 2, 3, 31, 32, 33, 34, 35, 36, 4, 5, 6, 7, 8, 9, 10, 11, 12, 13, 14, 15, 16, 17, 18, 19, 20, 21, 22, 23, 24, 25, 26, 27, 28, 29, 30] (by decide) (by rw [es18]; rfl) rfl ?_
                  obtain rfl := Option.some.inj hm
                  exact cv_iret C hr hk dX5_entry_122
                · have hm := cv_if_f h16 hm
                  by_cases h19 : a2 = 7
                  · have hm := cv_if_t h19 hm
                    refine cv_tin (tgt := 123) 7 C dX5_entry_20 h19 (by decide) (by decide) rfl (by decide) ?_
                    refine cv_aload_n (i := 3) (q := 124) 0 C dX5_entry_123 rfl rfl rfl ?_
                    refine cv_iload_n (i := 1) (q := 125) 2 C dX5_entry_124 rfl rfl rfl ?_
                    obtain ⟨r20, hr20, hm⟩ := cv_bd_s hm
                    refine cv_go (q := 128) (ws' := (wX5 q cy S)) C (KX4_lesser (l := l) (σ := σ) (D := D) (cy := cy)  (cv_sh q 4)  (gX3_tree (gX5_now S)) a1 hr20) (cv_rv (As := [.int a1]) (st := []) (n := 1) (q0 := 4) (ci := 4) C (KX4_lesser (l := l) (σ := σ) (D := D) (cy := cy)  (cv_sh q 4)  (gX3_tree (gX5_now S)) a1 hr20) rfl rfl gX5_entry_X4_lesser rfl ⟨rfl, rfl⟩ (by decide +kernel) rfl ⟨Nat.le_of_ble_eq_true rfl, Nat.le_of_ble_eq_true rfl⟩ rfl (Nat.le_of_ble_eq_true rfl) dX5_entry_125 ⟨Nat.zero_le _, Nat.zero_le _⟩) [4, 5, 6, 7, 8, 9] [0, 1, 2, 3, 10, 11, 12, 13, 14, 15, 16, 17, 18, 19, 20, 21, 22, 23, 24, 25, 26, 27, 28, 29, 30, 31, 32, 33, 34, 35, 36] rfl (wr := cv_pk (wX5 q cy S) [0, 1, 2, 3, 10, 11, 12, 13, 14, 15, 16, 17, 18, 19, 20, 21, 22, 23, 24, 25, 26, 27, 28, 29, 30, 31, 32, 33, 34, 35, 36]) rfl (by decide) (by decide) (by decide) [0, 1, 2, 3, 31, 32, 33, 34, 35, 36, 4, 5, 6, 7, 8, 9, 10, 11, 12, 13, 14, 15, 16, 17, 18, 19, 20, 21, 22, 23, 24, 25, 26, 27, 28, 29, 30] (by decide) rfl rfl ?_
                    obtain rfl := Option.some.inj hm
                    exact cv_iret C hr hk dX5_entry_128
                  · have hm := cv_if_f h19 hm
                    refine cv_tout (tgt := 129) C dX5_entry_20 (by have h3t := lv_neT (a := 0) h3 (by decide); have h5t := lv_neT (a := 1) h5 (by decide); have h7t := lv_neT (a := 2) h7 (by decide); have h10t := lv_neT (a := 3) h10 (by decide); have h12t := lv_neT (a := 4) h12 (by decide); have h14t := lv_neT (a := 5) h14 (by decide); have h16t := lv_neT (a := 6) h16 (by decide); have h19t := lv_neT (a := 7) h19 (by decide); omega) (by decide) ?_
                    refine cv_bipush (v := -102) (q := 131) C dX5_entry_129 (by decide) rfl ?_
                    obtain rfl := Option.some.inj hm
                    exact cv_iret C hr hk dX5_entry_131
  · have hm := cv_if_t h2 hm
    refine cv_bipush (v := -101) (q := 18) C dX5_entry_16 (by decide) rfl ?_
    obtain rfl := Option.some.inj hm
    exact cv_iret C hr hk dX5_entry_18
def fX5_isOf (a0 : Int32) (a1 : Int32) : Option (Int32) :=
  if a1 = 0 then
    (
    some (1 : Int32)
    )
  else
    (
    if a0 = a1 then
      (
      some (1 : Int32)
      )
    else
      (
      if a0 = (4 : Int32) then
        (
        if a1 = (1 : Int32) then
          (
          some (1 : Int32)
          )
        else
          (
          some (0 : Int32)
          )
        )
      else
        (
        some (0 : Int32)
        )
      )
    )
abbrev rX5_isOf : Room := { frames := 0, cells := 0, slots := 0, locals := 0 }
set_option maxHeartbeats 4000000 in
set_option maxRecDepth 100000 in
theorem KX5_isOf {l : Launch} {σ : Nat → Nat} {D : va_G} {cy : ClassId} (a0 : Int32) (a1 : Int32) {res : Int32} (hm : fX5_isOf a0 a1 = some res) : cv_M l yX5_isOf wsX5_isOf rX5_isOf σ D [(cy, .int)] [.int a0, .int a1] [] (some (.int res)) [] := by
  unfold fX5_isOf at hm
  refine cv_M.of (own := RX5) (by decide +kernel) rfl rfl (lv := [(0, .int a0), (1, .int a1)]) rfl (Nat.le_of_ble_eq_true rfl) ?_
  intro p e s m args below meth c A C hr hk
  refine cv_iload_n (i := 1) (q := 1) 1 C dX5_isOf_0 rfl rfl rfl ?_
  refine cv_if_eq (tgt := 19) (q := 4) C dX5_isOf_1 (by decide) rfl (fun h1 => ?_) (fun h1 => ?_)
  · have hm := cv_if_t h1 hm
    refine cv_iconst (v := 1) (q := 20) C dX5_isOf_19 (by decide) rfl ?_
    refine cv_goto (tgt := 24) C dX5_isOf_20 (by decide) ?_
    obtain rfl := Option.some.inj hm
    exact cv_zret C hr hk (cv_bool (Or.inr rfl)) dX5_isOf_24
  · have hm := cv_if_f h1 hm
    refine cv_iload_n (i := 0) (q := 5) 0 C dX5_isOf_4 rfl rfl rfl ?_
    refine cv_iload_n (i := 1) (q := 6) 1 C dX5_isOf_5 rfl rfl rfl ?_
    refine cv_icmp_eq (tgt := 19) (q := 9) C dX5_isOf_6 (by decide) rfl (fun h2 => ?_) (fun h2 => ?_)
    · have hm := cv_if_t h2 hm
      refine cv_iconst (v := 1) (q := 20) C dX5_isOf_19 (by decide) rfl ?_
      refine cv_goto (tgt := 24) C dX5_isOf_20 (by decide) ?_
      obtain rfl := Option.some.inj hm
      exact cv_zret C hr hk (cv_bool (Or.inr rfl)) dX5_isOf_24
    · have hm := cv_if_f h2 hm
      refine cv_iload_n (i := 0) (q := 10) 0 C dX5_isOf_9 rfl rfl rfl ?_
      refine cv_iconst (v := 4) (q := 11) C dX5_isOf_10 (by decide) rfl ?_
      refine cv_icmp_ne (tgt := 23) (q := 14) C dX5_isOf_11 (by decide) rfl (fun h3 => ?_) (fun h3 => ?_)
      · have hm := cv_if_f h3 hm
        refine cv_iconst (v := 0) (q := 24) C dX5_isOf_23 (by decide) rfl ?_
        obtain rfl := Option.some.inj hm
        exact cv_zret C hr hk (cv_bool (Or.inl rfl)) dX5_isOf_24
      · have hm := cv_if_t h3 hm
        refine cv_iload_n (i := 1) (q := 15) 1 C dX5_isOf_14 rfl rfl rfl ?_
        refine cv_iconst (v := 1) (q := 16) C dX5_isOf_15 (by decide) rfl ?_
        refine cv_icmp_ne (tgt := 23) (q := 19) C dX5_isOf_16 (by decide) rfl (fun h4 => ?_) (fun h4 => ?_)
        · have hm := cv_if_f h4 hm
          refine cv_iconst (v := 0) (q := 24) C dX5_isOf_23 (by decide) rfl ?_
          obtain rfl := Option.some.inj hm
          exact cv_zret C hr hk (cv_bool (Or.inl rfl)) dX5_isOf_24
        · have hm := cv_if_t h4 hm
          refine cv_iconst (v := 1) (q := 20) C dX5_isOf_19 (by decide) rfl ?_
          refine cv_goto (tgt := 24) C dX5_isOf_20 (by decide) ?_
          obtain rfl := Option.some.inj hm
          exact cv_zret C hr hk (cv_bool (Or.inr rfl)) dX5_isOf_24
def fX5_as (S : SX5) (a1 : Int32) (a2 : Int32) : Option (Int32) :=
  cv_bd (fX4_has (gX3_tree (gX5_now S)) a1) fun r1 =>
  if r1 = 0 then
    (
    some (-101 : Int32)
    )
  else
    (
    if a2 < 0 then
      (
      some (-102 : Int32)
      )
    else
      (
      if a2 < (5 : Int32) then
        (
        cv_gd (0 ≤ (a1).toInt ∧ (a1).toInt < 100) <|
        cv_bd (fX5_isOf ((gX3_kinds (gX5_now S)) (a1).toNatClampNeg) a2) fun r6 =>
        if r6 = 0 then
          (
          some (-1 : Int32)
          )
        else
          (
          some a1
          )
        )
      else
        (
        some (-102 : Int32)
        )
      )
    )
abbrev rX5_as : Room := { frames := 1, cells := 0, slots := 0, locals := 21 }
theorem iX5_as_X3 : ∀ w ∈ u_ws RX3 TX3 8, w ∈ wsX5_as := fun w h => List.mem_cons_of_mem _ (List.mem_append_left _ (List.mem_append_right _ h))
theorem iX5_as_X5 : ∀ w ∈ u_ws RX5 TX5 7, w ∈ wsX5_as := fun w h => List.mem_cons_of_mem _ (List.mem_append_left _ (List.mem_append_left _ (List.mem_append_right _ h)))
set_option maxHeartbeats 4000000 in
set_option maxRecDepth 100000 in
theorem KX5_as {l : Launch} {σ : Nat → Nat} {D : va_G} {cy : ClassId} (q : Nat → Nat) (S : SX5) (a1 : Int32) (a2 : Int32) {res : Int32} (hm : fX5_as S a1 a2 = some res) : cv_M l yX5_as wsX5_as rX5_as σ D [(cy, .int)] [.ref (q 0), .int a1, .int a2] (wX5 q cy S) (some (.int res)) (wX5 q cy S) := by
  unfold fX5_as at hm
  refine cv_M.of (own := RX5) (by decide +kernel) rfl rfl (lv := [(0, .ref (q 0)), (1, .int a1), (2, .int a2)]) rfl (Nat.le_of_ble_eq_true rfl) ?_
  intro p e s m args below meth c A C hr hk
  refine cv_aload_n (i := 0) (q := 1) 0 C dX5_as_0 rfl rfl rfl ?_
  refine cv_get (q := 4) C iX5_as_X5 0 rfl rfl 1 (by decide) (List.mem_of_getElem? (i := 1) rfl) rfl rfl dX5_as_1 rfl ?_
  refine cv_get (q := 7) C iX5_as_X3 3 rfl rfl 0 (by decide) (List.mem_of_getElem? (i := 2) rfl) rfl rfl dX5_as_4 rfl ?_
  refine cv_iload_n (i := 1) (q := 8) 1 C dX5_as_7 rfl rfl rfl ?_
  obtain ⟨r1, hr1, hm⟩ := cv_bd_s hm
  refine cv_go (q := 11) (ws' := (wX5 q cy S)) C (KX4_has (l := l) (σ := σ) (D := D) (cy := cy)  (cv_sh q 4)  (gX3_tree (gX5_now S)) a1 hr1) (cv_rv (As := [.int a1]) (st := []) (n := 1) (q0 := 4) (ci := 4) C (KX4_has (l := l) (σ := σ) (D := D) (cy := cy)  (cv_sh q 4)  (gX3_tree (gX5_now S)) a1 hr1) rfl rfl gX5_as_X4_has rfl ⟨rfl, rfl⟩ (by decide +kernel) rfl ⟨Nat.le_of_ble_eq_true rfl, Nat.le_of_ble_eq_true rfl⟩ rfl (Nat.le_of_ble_eq_true rfl) dX5_as_8 ⟨Nat.zero_le _, Nat.zero_le _⟩) [4, 5, 6, 7, 8, 9] [0, 1, 2, 3, 10, 11, 12, 13, 14, 15, 16, 17, 18, 19, 20, 21, 22, 23, 24, 25, 26, 27, 28, 29, 30, 31, 32, 33, 34, 35, 36] rfl (wr := cv_pk (wX5 q cy S) [0, 1, 2, 3, 10, 11, 12, 13, 14, 15, 16, 17, 18, 19, 20, 21, 22, 23, 24, 25, 26, 27, 28, 29, 30, 31, 32, 33, 34, 35, 36]) rfl (by decide) (by decide) (by decide) [0, 1, 2, 3, 31, 32, 33, 34, 35, 36, 4, 5, 6, 7, 8, 9, 10, 11, 12, 13, 14, 15, 16, 17, 18, 19, 20, 21, 22, 23, 24, 25, 26, 27, 28, 29, 30] (by decide) rfl rfl ?_
  refine cv_if_ne (tgt := 17) (q := 14) C dX5_as_11 (by decide) rfl (fun h2 => ?_) (fun h2 => ?_)
  · have hm := cv_if_f h2 hm
    refine cv_iload_n (i := 2) (q := 18) 2 C dX5_as_17 rfl rfl rfl ?_
    refine cv_if_lt (tgt := 26) (q := 21) C dX5_as_18 (by decide) rfl (fun h3 => ?_) (fun h3 => ?_)
    · have hm := cv_if_t h3 hm
      refine cv_bipush (v := -102) (q := 28) C dX5_as_26 (by decide) rfl ?_
      obtain rfl := Option.some.inj hm
      exact cv_iret C hr hk dX5_as_28
    · have hm := cv_if_f h3 hm
      refine cv_iload_n (i := 2) (q := 22) 2 C dX5_as_21 rfl rfl rfl ?_
      refine cv_iconst (v := 5) (q := 23) C dX5_as_22 (by decide) rfl ?_
      refine cv_icmp_lt (tgt := 29) (q := 26) C dX5_as_23 (by decide) rfl (fun h4 => ?_) (fun h4 => ?_)
      · have hm := cv_if_t h4 hm
        refine cv_aload_n (i := 0) (q := 30) 0 C dX5_as_29 rfl rfl rfl ?_
        refine cv_get (q := 33) C iX5_as_X5 0 rfl rfl 1 (by decide) (List.mem_of_getElem? (i := 1) rfl) rfl rfl dX5_as_30 rfl ?_
        refine cv_get (q := 36) C iX5_as_X3 3 rfl rfl 1 (by decide) (List.mem_of_getElem? (i := 3) rfl) rfl rfl dX5_as_33 rfl ?_
        refine cv_iload_n (i := 1) (q := 37) 1 C dX5_as_36 rfl rfl rfl ?_
        obtain ⟨g5, hm⟩ := cv_gd_s hm
        refine cv_iald (q := 38) C 10 0 rfl rfl (vp_in_iff.mpr g5) dX5_as_37 rfl ?_
        refine cv_iload_n (i := 2) (q := 39) 2 C dX5_as_38 rfl rfl rfl ?_
        obtain ⟨r6, hr6, hm⟩ := cv_bd_s hm
        refine cv_goE (q := 42) C (KX5_isOf (l := l) (σ := σ) (D := D) (cy := cy)     ((gX3_kinds (gX5_now S)) (a1).toNatClampNeg) a2 hr6) (cv_rs (As := [.int ((gX3_kinds (gX5_now S)) (a1).toNatClampNeg), .int a2]) (st := []) (n := 2) C (KX5_isOf (l := l) (σ := σ) (D := D) (cy := cy)     ((gX3_kinds (gX5_now S)) (a1).toNatClampNeg) a2 hr6) gX5_as_X5_isOf rfl ⟨rfl, rfl⟩ (by decide +kernel) rfl ⟨Nat.le_of_ble_eq_true rfl, Nat.le_of_ble_eq_true rfl⟩ rfl (Nat.le_of_ble_eq_true rfl) dX5_as_39 ⟨Nat.zero_le _, Nat.zero_le _⟩) rfl ?_
        refine cv_if_eq (tgt := 49) (q := 45) C dX5_as_42 (by decide) rfl (fun h7 => ?_) (fun h7 => ?_)
        · have hm := cv_if_t h7 hm
          refine cv_iconst (v := -1) (q := 50) C dX5_as_49 (by decide) rfl ?_
          obtain rfl := Option.some.inj hm
          exact cv_iret C hr hk dX5_as_50
        · have hm := cv_if_f h7 hm
          refine cv_iload_n (i := 1) (q := 46) 1 C dX5_as_45 rfl rfl rfl ?_
          refine cv_goto (tgt := 50) C dX5_as_46 (by decide) ?_
          obtain rfl := Option.some.inj hm
          exact cv_iret C hr hk dX5_as_50
      · have hm := cv_if_f h4 hm
        refine cv_bipush (v := -102) (q := 28) C dX5_as_26 (by decide) rfl ?_
        obtain rfl := Option.some.inj hm
        exact cv_iret C hr hk dX5_as_28
  · have hm := cv_if_t h2 hm
    refine cv_bipush (v := -101) (q := 16) C dX5_as_14 (by decide) rfl ?_
    obtain rfl := Option.some.inj hm
    exact cv_iret C hr hk dX5_as_16
def fX5_at_L4 (S : SX5) : Nat → Int32 → Int32 → Option (Int32)
  | 0, _, _ => none
  | n + 1, y2, y3 =>
    if (100 : Int32) ≤ y3 then
      (
      some (-101 : Int32)
      )
    else
      (
      if y2 < 0 then
        (
        some (-101 : Int32)
        )
      else
        (
        cv_bd (fX4_has (gX3_tree (gX5_now S)) y3) fun r3 =>
        if r3 = 0 then
          (
          cv_lt (y3 + (1 : Int32)) fun x5 =>
          fX5_at_L4 S n y2 x5
          )
        else
          (
          if y2 = 0 then
            (
            some y3
            )
          else
            (
            cv_lt (y2 + (-1 : Int32)) fun x7 =>
            cv_lt (y3 + (1 : Int32)) fun x8 =>
            fX5_at_L4 S n x7 x8
            )
          )
        )
      )
def fX5_at (S : SX5) (a1 : Int32) : Option (Int32) :=
  fX5_at_L4 S 256 a1 (0 : Int32)
abbrev rX5_at : Room := { frames := 1, cells := 0, slots := 0, locals := 21 }
theorem iX5_at_X3 : ∀ w ∈ u_ws RX3 TX3 8, w ∈ wsX5_at := fun w h => List.mem_cons_of_mem _ (List.mem_append_left _ (List.mem_append_right _ h))
theorem iX5_at_X5 : ∀ w ∈ u_ws RX5 TX5 7, w ∈ wsX5_at := fun w h => List.mem_cons_of_mem _ (List.mem_append_left _ (List.mem_append_left _ (List.mem_append_right _ h)))
set_option maxHeartbeats 4000000 in
set_option maxRecDepth 100000 in
theorem vX5_at_L4 {p : Program} {l : Launch} {e : Env} {s : State} {m : MethodId} {args : Array Value} {below : List Frame} {meth : Method} {c : Code} {σ : Nat → Nat} {D : va_G} {A : Nat → Prop} {cy : ClassId} (q : Nat → Nat) (S : SX5) (C : cv_C p s m args c cX5_at 4 RX5 wsX5_at σ D [(cy, .int)] A) (hr : meth.sig.returnType = some .int) (hk : meth.locks = false) {res : Int32} : ∀ (n : Nat) (y2 : Int32) (y3 : Int32), fX5_at_L4 S n y2 y3 = some res → cv_V p l e rX5_at s m args below meth c 4 D A (cv_Q below (some (.int res)) (wX5 q cy S) D [(cy, .int)] A args s) 0 0 (wX5 q cy S) 4 [(0, .ref (q 0)), (2, .int y2), (3, .int y3)] [] := by
  intro n
  induction n with
  | zero => intro y2 y3 hm; cases hm
  | succ n ih =>
    intro y2 y3 hm
    have hm : fX5_at_L4 S (n + 1) y2 y3 = some res := hm
    unfold fX5_at_L4 at hm
    refine cv_iload_n (i := 3) (q := 5) 2 C dX5_at_4 rfl rfl rfl ?_
    refine cv_bipush (v := 100) (q := 7) C dX5_at_5 (by decide) rfl ?_
    refine cv_icmp_ge (tgt := 43) (q := 10) C dX5_at_7 (by decide) rfl (fun h1 => ?_) (fun h1 => ?_)
    · have hm := cv_if_t h1 hm
      refine cv_bipush (v := -101) (q := 45) C dX5_at_43 (by decide) rfl ?_
      obtain rfl := Option.some.inj hm
      exact cv_iret C hr hk dX5_at_45
    · have hm := cv_if_f h1 hm
      refine cv_iload_n (i := 2) (q := 11) 1 C dX5_at_10 rfl rfl rfl ?_
      refine cv_if_lt (tgt := 43) (q := 14) C dX5_at_11 (by decide) rfl (fun h2 => ?_) (fun h2 => ?_)
      · have hm := cv_if_t h2 hm
        refine cv_bipush (v := -101) (q := 45) C dX5_at_43 (by decide) rfl ?_
        obtain rfl := Option.some.inj hm
        exact cv_iret C hr hk dX5_at_45
      · have hm := cv_if_f h2 hm
        refine cv_aload_n (i := 0) (q := 15) 0 C dX5_at_14 rfl rfl rfl ?_
        refine cv_get (q := 18) C iX5_at_X5 0 rfl rfl 1 (by decide) (List.mem_of_getElem? (i := 1) rfl) rfl rfl dX5_at_15 rfl ?_
        refine cv_get (q := 21) C iX5_at_X3 3 rfl rfl 0 (by decide) (List.mem_of_getElem? (i := 2) rfl) rfl rfl dX5_at_18 rfl ?_
        refine cv_iload_n (i := 3) (q := 22) 2 C dX5_at_21 rfl rfl rfl ?_
        obtain ⟨r3, hr3, hm⟩ := cv_bd_s hm
        refine cv_go (q := 25) (ws' := (wX5 q cy S)) C (KX4_has (l := l) (σ := σ) (D := D) (cy := cy)  (cv_sh q 4)  (gX3_tree (gX5_now S)) y3 hr3) (cv_rv (As := [.int y3]) (st := []) (n := 1) (q0 := 4) (ci := 4) C (KX4_has (l := l) (σ := σ) (D := D) (cy := cy)  (cv_sh q 4)  (gX3_tree (gX5_now S)) y3 hr3) rfl rfl gX5_at_X4_has rfl ⟨rfl, rfl⟩ (by decide +kernel) rfl ⟨Nat.le_of_ble_eq_true rfl, Nat.le_of_ble_eq_true rfl⟩ rfl (Nat.le_of_ble_eq_true rfl) dX5_at_22 ⟨Nat.zero_le _, Nat.zero_le _⟩) [4, 5, 6, 7, 8, 9] [0, 1, 2, 3, 10, 11, 12, 13, 14, 15, 16, 17, 18, 19, 20, 21, 22, 23, 24, 25, 26, 27, 28, 29, 30, 31, 32, 33, 34, 35, 36] rfl (wr := cv_pk (wX5 q cy S) [0, 1, 2, 3, 10, 11, 12, 13, 14, 15, 16, 17, 18, 19, 20, 21, 22, 23, 24, 25, 26, 27, 28, 29, 30, 31, 32, 33, 34, 35, 36]) rfl (by decide) (by decide) (by decide) [0, 1, 2, 3, 31, 32, 33, 34, 35, 36, 4, 5, 6, 7, 8, 9, 10, 11, 12, 13, 14, 15, 16, 17, 18, 19, 20, 21, 22, 23, 24, 25, 26, 27, 28, 29, 30] (by decide) rfl rfl ?_
        refine cv_if_eq (tgt := 37) (q := 28) C dX5_at_25 (by decide) rfl (fun h4 => ?_) (fun h4 => ?_)
        · have hm := cv_if_t h4 hm
          obtain ⟨x5, ex5, hm⟩ := cv_lt_s hm
          refine cv_iinc (v := x5) (lv' := [(3, .int x5), (0, .ref (q 0)), (2, .int y2)]) (q := 40) 2 C dX5_at_37 rfl (by rw [ex5]; rfl) (by decide) rfl rfl ?_
          refine cv_goto (tgt := 4) C dX5_at_40 (by decide) ?_
          refine cv_sub [1, 2, 0] rfl ?_
          exact ih y2 x5 hm
        · have hm := cv_if_f h4 hm
          refine cv_iload_n (i := 2) (q := 29) 1 C dX5_at_28 rfl rfl rfl ?_
          refine cv_if_ne (tgt := 34) (q := 32) C dX5_at_29 (by decide) rfl (fun h6 => ?_) (fun h6 => ?_)
          · have hm := cv_if_f h6 hm
            obtain ⟨x7, ex7, hm⟩ := cv_lt_s hm
            refine cv_iinc (v := x7) (lv' := [(2, .int x7), (0, .ref (q 0)), (3, .int y3)]) (q := 37) 1 C dX5_at_34 rfl (by rw [ex7]; rfl) (by decide) rfl rfl ?_
            obtain ⟨x8, ex8, hm⟩ := cv_lt_s hm
            refine cv_iinc (v := x8) (lv' := [(3, .int x8), (2, .int x7), (0, .ref (q 0))]) (q := 40) 2 C dX5_at_37 rfl (by rw [ex8]; rfl) (by decide) rfl rfl ?_
            refine cv_goto (tgt := 4) C dX5_at_40 (by decide) ?_
            refine cv_sub [2, 1, 0] rfl ?_
            exact ih x7 x8 hm
          · have hm := cv_if_t h6 hm
            refine cv_iload_n (i := 3) (q := 33) 2 C dX5_at_32 rfl rfl rfl ?_
            obtain rfl := Option.some.inj hm
            exact cv_iret C hr hk dX5_at_33
set_option maxHeartbeats 4000000 in
set_option maxRecDepth 100000 in
theorem KX5_at {l : Launch} {σ : Nat → Nat} {D : va_G} {cy : ClassId} (q : Nat → Nat) (S : SX5) (a1 : Int32) {res : Int32} (hm : fX5_at S a1 = some res) : cv_M l yX5_at wsX5_at rX5_at σ D [(cy, .int)] [.ref (q 0), .int a1] (wX5 q cy S) (some (.int res)) (wX5 q cy S) := by
  unfold fX5_at at hm
  refine cv_M.of (own := RX5) (by decide +kernel) rfl rfl (lv := [(0, .ref (q 0)), (1, .int a1)]) rfl (Nat.le_of_ble_eq_true rfl) ?_
  intro p e s m args below meth c A C hr hk
  refine cv_iload_n (i := 1) (q := 1) 1 C dX5_at_0 rfl rfl rfl ?_
  refine cv_istore_n (i := 2) (lv' := [(2, .int a1), (0, .ref (q 0)), (1, .int a1)]) (q := 2) C dX5_at_1 rfl (by decide) rfl rfl ?_
  refine cv_iconst (v := 0) (q := 3) C dX5_at_2 (by decide) rfl ?_
  refine cv_istore_n (i := 3) (lv' := [(3, .int (0 : Int32)), (2, .int a1), (0, .ref (q 0)), (1, .int a1)]) (q := 4) C dX5_at_3 rfl (by decide) rfl rfl ?_
  refine cv_sub [2, 1, 0] rfl ?_
  exact vX5_at_L4 q S C hr hk 256 a1 (0 : Int32) hm
def fX5_next_L12 (S : SX5) (u1 : Int32) : Nat → Int32 → Option (Int32)
  | 0, _ => none
  | n + 1, y2 =>
    if (100 : Int32) ≤ y2 then
      (
      some (-1 : Int32)
      )
    else
      (
      if y2 ≤ u1 then
        (
        cv_lt (y2 + (1 : Int32)) fun x4 =>
        fX5_next_L12 S u1 n x4
        )
      else
        (
        cv_bd (fX4_has (gX3_tree (gX5_now S)) y2) fun r5 =>
        if r5 = 0 then
          (
          cv_lt (y2 + (1 : Int32)) fun x7 =>
          fX5_next_L12 S u1 n x7
          )
        else
          (
          some y2
          )
        )
      )
def fX5_next (S : SX5) (a1 : Int32) : Option (Int32) :=
  if (gX5_open S) = 0 then
    (
    some (-103 : Int32)
    )
  else
    (
    fX5_next_L12 S a1 256 (0 : Int32)
    )
abbrev rX5_next : Room := { frames := 1, cells := 0, slots := 0, locals := 21 }
theorem iX5_next_X3 : ∀ w ∈ u_ws RX3 TX3 8, w ∈ wsX5_next := fun w h => List.mem_cons_of_mem _ (List.mem_append_left _ (List.mem_append_right _ h))
theorem iX5_next_X5 : ∀ w ∈ u_ws RX5 TX5 7, w ∈ wsX5_next := fun w h => List.mem_cons_of_mem _ (List.mem_append_left _ (List.mem_append_left _ (List.mem_append_right _ h)))
set_option maxHeartbeats 4000000 in
set_option maxRecDepth 100000 in
theorem vX5_next_L12 {p : Program} {l : Launch} {e : Env} {s : State} {m : MethodId} {args : Array Value} {below : List Frame} {meth : Method} {c : Code} {σ : Nat → Nat} {D : va_G} {A : Nat → Prop} {cy : ClassId} (q : Nat → Nat) (S : SX5) (u1 : Int32) (C : cv_C p s m args c cX5_next 3 RX5 wsX5_next σ D [(cy, .int)] A) (hr : meth.sig.returnType = some .int) (hk : meth.locks = false) {res : Int32} : ∀ (n : Nat) (y2 : Int32), fX5_next_L12 S u1 n y2 = some res → cv_V p l e rX5_next s m args below meth c 3 D A (cv_Q below (some (.int res)) (wX5 q cy S) D [(cy, .int)] A args s) 0 0 (wX5 q cy S) 12 [(0, .ref (q 0)), (1, .int u1), (2, .int y2)] [] := by
  intro n
  induction n with
  | zero => intro y2 hm; cases hm
  | succ n ih =>
    intro y2 hm
    have hm : fX5_next_L12 S u1 (n + 1) y2 = some res := hm
    unfold fX5_next_L12 at hm
    refine cv_iload_n (i := 2) (q := 13) 2 C dX5_next_12 rfl rfl rfl ?_
    refine cv_bipush (v := 100) (q := 15) C dX5_next_13 (by decide) rfl ?_
    refine cv_icmp_ge (tgt := 45) (q := 18) C dX5_next_15 (by decide) rfl (fun h2 => ?_) (fun h2 => ?_)
    · have hm := cv_if_t h2 hm
      refine cv_iconst (v := -1) (q := 46) C dX5_next_45 (by decide) rfl ?_
      obtain rfl := Option.some.inj hm
      exact cv_iret C hr hk dX5_next_46
    · have hm := cv_if_f h2 hm
      refine cv_iload_n (i := 2) (q := 19) 2 C dX5_next_18 rfl rfl rfl ?_
      refine cv_iload_n (i := 1) (q := 20) 1 C dX5_next_19 rfl rfl rfl ?_
      refine cv_icmp_le (tgt := 39) (q := 23) C dX5_next_20 (by decide) rfl (fun h3 => ?_) (fun h3 => ?_)
      · have hm := cv_if_t h3 hm
        obtain ⟨x4, ex4, hm⟩ := cv_lt_s hm
        refine cv_iinc (v := x4) (lv' := [(2, .int x4), (0, .ref (q 0)), (1, .int u1)]) (q := 42) 2 C dX5_next_39 rfl (by rw [ex4]; rfl) (by decide) rfl rfl ?_
        refine cv_goto (tgt := 12) C dX5_next_42 (by decide) ?_
        refine cv_sub [1, 2, 0] rfl ?_
        exact ih x4 hm
      · have hm := cv_if_f h3 hm
        refine cv_aload_n (i := 0) (q := 24) 0 C dX5_next_23 rfl rfl rfl ?_
        refine cv_get (q := 27) C iX5_next_X5 0 rfl rfl 1 (by decide) (List.mem_of_getElem? (i := 2) rfl) rfl rfl dX5_next_24 rfl ?_
        refine cv_get (q := 30) C iX5_next_X3 3 rfl rfl 0 (by decide) (List.mem_of_getElem? (i := 3) rfl) rfl rfl dX5_next_27 rfl ?_
        refine cv_iload_n (i := 2) (q := 31) 2 C dX5_next_30 rfl rfl rfl ?_
        obtain ⟨r5, hr5, hm⟩ := cv_bd_s hm
        refine cv_go (q := 34) (ws' := (wX5 q cy S)) C (KX4_has (l := l) (σ := σ) (D := D) (cy := cy)  (cv_sh q 4)  (gX3_tree (gX5_now S)) y2 hr5) (cv_rv (As := [.int y2]) (st := []) (n := 1) (q0 := 4) (ci := 4) C (KX4_has (l := l) (σ := σ) (D := D) (cy := cy)  (cv_sh q 4)  (gX3_tree (gX5_now S)) y2 hr5) rfl rfl gX5_next_X4_has rfl ⟨rfl, rfl⟩ (by decide +kernel) rfl ⟨Nat.le_of_ble_eq_true rfl, Nat.le_of_ble_eq_true rfl⟩ rfl (Nat.le_of_ble_eq_true rfl) dX5_next_31 ⟨Nat.zero_le _, Nat.zero_le _⟩) [4, 5, 6, 7, 8, 9] [0, 1, 2, 3, 10, 11, 12, 13, 14, 15, 16, 17, 18, 19, 20, 21, 22, 23, 24, 25, 26, 27, 28, 29, 30, 31, 32, 33, 34, 35, 36] rfl (wr := cv_pk (wX5 q cy S) [0, 1, 2, 3, 10, 11, 12, 13, 14, 15, 16, 17, 18, 19, 20, 21, 22, 23, 24, 25, 26, 27, 28, 29, 30, 31, 32, 33, 34, 35, 36]) rfl (by decide) (by decide) (by decide) [0, 1, 2, 3, 31, 32, 33, 34, 35, 36, 4, 5, 6, 7, 8, 9, 10, 11, 12, 13, 14, 15, 16, 17, 18, 19, 20, 21, 22, 23, 24, 25, 26, 27, 28, 29, 30] (by decide) rfl rfl ?_
        refine cv_if_eq (tgt := 39) (q := 37) C dX5_next_34 (by decide) rfl (fun h6 => ?_) (fun h6 => ?_)
        · have hm := cv_if_t h6 hm
          obtain ⟨x7, ex7, hm⟩ := cv_lt_s hm
          refine cv_iinc (v := x7) (lv' := [(2, .int x7), (0, .ref (q 0)), (1, .int u1)]) (q := 42) 2 C dX5_next_39 rfl (by rw [ex7]; rfl) (by decide) rfl rfl ?_
          refine cv_goto (tgt := 12) C dX5_next_42 (by decide) ?_
          refine cv_sub [1, 2, 0] rfl ?_
          exact ih x7 hm
        · have hm := cv_if_f h6 hm
          refine cv_iload_n (i := 2) (q := 38) 2 C dX5_next_37 rfl rfl rfl ?_
          obtain rfl := Option.some.inj hm
          exact cv_iret C hr hk dX5_next_38
set_option maxHeartbeats 4000000 in
set_option maxRecDepth 100000 in
theorem KX5_next {l : Launch} {σ : Nat → Nat} {D : va_G} {cy : ClassId} (q : Nat → Nat) (S : SX5) (a1 : Int32) {res : Int32} (hm : fX5_next S a1 = some res) : cv_M l yX5_next wsX5_next rX5_next σ D [(cy, .int)] [.ref (q 0), .int a1] (wX5 q cy S) (some (.int res)) (wX5 q cy S) := by
  unfold fX5_next at hm
  refine cv_M.of (own := RX5) (by decide +kernel) rfl rfl (lv := [(0, .ref (q 0)), (1, .int a1)]) rfl (Nat.le_of_ble_eq_true rfl) ?_
  intro p e s m args below meth c A C hr hk
  refine cv_aload_n (i := 0) (q := 1) 0 C dX5_next_0 rfl rfl rfl ?_
  refine cv_get (q := 4) C iX5_next_X5 0 rfl rfl 4 (by decide) (List.mem_of_getElem? (i := 1) rfl) rfl rfl dX5_next_1 rfl ?_
  refine cv_if_ne (tgt := 10) (q := 7) C dX5_next_4 (by decide) rfl (fun h1 => ?_) (fun h1 => ?_)
  · have hm := cv_if_f h1 hm
    refine cv_iconst (v := 0) (q := 11) C dX5_next_10 (by decide) rfl ?_
    refine cv_istore_n (i := 2) (lv' := [(2, .int (0 : Int32)), (0, .ref (q 0)), (1, .int a1)]) (q := 12) C dX5_next_11 rfl (by decide) rfl rfl ?_
    refine cv_sub [1, 2, 0] rfl ?_
    exact vX5_next_L12 q S a1 C hr hk 256 (0 : Int32) hm
  · have hm := cv_if_t h1 hm
    refine cv_bipush (v := -103) (q := 9) C dX5_next_7 (by decide) rfl ?_
    obtain rfl := Option.some.inj hm
    exact cv_iret C hr hk dX5_next_9
def fX5_isNoKey (a0 : Int32) : Option (Int32) :=
  if a0 < 0 then
    (
    some (1 : Int32)
    )
  else
    (
    if a0 < (100 : Int32) then
      (
      some (0 : Int32)
      )
    else
      (
      some (1 : Int32)
      )
    )
abbrev rX5_isNoKey : Room := { frames := 0, cells := 0, slots := 0, locals := 0 }
set_option maxHeartbeats 4000000 in
set_option maxRecDepth 100000 in
theorem KX5_isNoKey {l : Launch} {σ : Nat → Nat} {D : va_G} {cy : ClassId} (a0 : Int32) {res : Int32} (hm : fX5_isNoKey a0 = some res) : cv_M l yX5_isNoKey wsX5_isNoKey rX5_isNoKey σ D [(cy, .int)] [.int a0] [] (some (.int res)) [] := by
  unfold fX5_isNoKey at hm
  refine cv_M.of (own := RX5) (by decide +kernel) rfl rfl (lv := [(0, .int a0)]) rfl (Nat.le_of_ble_eq_true rfl) ?_
  intro p e s m args below meth c A C hr hk
  refine cv_iload_n (i := 0) (q := 1) 0 C dX5_isNoKey_0 rfl rfl rfl ?_
  refine cv_if_lt (tgt := 10) (q := 4) C dX5_isNoKey_1 (by decide) rfl (fun h1 => ?_) (fun h1 => ?_)
  · have hm := cv_if_t h1 hm
    refine cv_iconst (v := 1) (q := 11) C dX5_isNoKey_10 (by decide) rfl ?_
    refine cv_goto (tgt := 15) C dX5_isNoKey_11 (by decide) ?_
    obtain rfl := Option.some.inj hm
    exact cv_zret C hr hk (cv_bool (Or.inr rfl)) dX5_isNoKey_15
  · have hm := cv_if_f h1 hm
    refine cv_iload_n (i := 0) (q := 5) 0 C dX5_isNoKey_4 rfl rfl rfl ?_
    refine cv_bipush (v := 100) (q := 7) C dX5_isNoKey_5 (by decide) rfl ?_
    refine cv_icmp_lt (tgt := 14) (q := 10) C dX5_isNoKey_7 (by decide) rfl (fun h2 => ?_) (fun h2 => ?_)
    · have hm := cv_if_t h2 hm
      refine cv_iconst (v := 0) (q := 15) C dX5_isNoKey_14 (by decide) rfl ?_
      obtain rfl := Option.some.inj hm
      exact cv_zret C hr hk (cv_bool (Or.inl rfl)) dX5_isNoKey_15
    · have hm := cv_if_f h2 hm
      refine cv_iconst (v := 1) (q := 11) C dX5_isNoKey_10 (by decide) rfl ?_
      refine cv_goto (tgt := 15) C dX5_isNoKey_11 (by decide) ?_
      obtain rfl := Option.some.inj hm
      exact cv_zret C hr hk (cv_bool (Or.inr rfl)) dX5_isNoKey_15
def fX5_isAble (a0 : Int32) (a1 : Int32) : Option (Int32) :=
  cv_gd (0 ≤ (a1).toInt ∧ (a1).toInt < 4) <|
  if ((cv_able (a1).toNatClampNeg) &&& ((1 : Int32) <<< (a0 &&& 31))) = 0 then
    (
    some (0 : Int32)
    )
  else
    (
    some (1 : Int32)
    )
abbrev rX5_isAble : Room := { frames := 0, cells := 0, slots := 0, locals := 0 }
set_option maxHeartbeats 4000000 in
set_option maxRecDepth 100000 in
theorem KX5_isAble {l : Launch} {σ : Nat → Nat} {D : va_G} {cy : ClassId} (a0 : Int32) (a1 : Int32) {res : Int32} (hm : fX5_isAble a0 a1 = some res) : cv_M l yX5_isAble wsX5_isAble rX5_isAble σ D [(cy, .int)] [.int a0, .int a1] [] (some (.int res)) [] := by
  unfold fX5_isAble at hm
  refine cv_M.of (own := RX5) (by decide +kernel) rfl rfl (lv := [(0, .int a0), (1, .int a1)]) rfl (Nat.le_of_ble_eq_true rfl) ?_
  intro p e s m args below meth c A C hr hk
  refine cv_gets (q := 3) C (List.mem_of_getElem? (i := 1) rfl) dX5_isAble_0 rfl ?_
  refine cv_iload_n (i := 1) (q := 4) 1 C dX5_isAble_3 rfl rfl rfl ?_
  obtain ⟨g1, hm⟩ := cv_gd_s hm
  refine cv_tald (q := 5) C (vp_in_iff.mpr g1) dX5_isAble_4 rfl ?_
  refine cv_iconst (v := 1) (q := 6) C dX5_isAble_5 (by decide) rfl ?_
  refine cv_iload_n (i := 0) (q := 7) 0 C dX5_isAble_6 rfl rfl rfl ?_
  refine cv_ishl (q := 8) C dX5_isAble_7 rfl ?_
  refine cv_iand (q := 9) C dX5_isAble_8 rfl ?_
  refine cv_if_eq (tgt := 16) (q := 12) C dX5_isAble_9 (by decide) rfl (fun h2 => ?_) (fun h2 => ?_)
  · have hm := cv_if_t h2 hm
    refine cv_iconst (v := 0) (q := 17) C dX5_isAble_16 (by decide) rfl ?_
    obtain rfl := Option.some.inj hm
    exact cv_zret C hr hk (cv_bool (Or.inl rfl)) dX5_isAble_17
  · have hm := cv_if_f h2 hm
    refine cv_iconst (v := 1) (q := 13) C dX5_isAble_12 (by decide) rfl ?_
    refine cv_goto (tgt := 17) C dX5_isAble_13 (by decide) ?_
    obtain rfl := Option.some.inj hm
    exact cv_zret C hr hk (cv_bool (Or.inr rfl)) dX5_isAble_17
def fX5_put (S : SX5) (a1 : Int32) (a2 : Int32) (a3 : Int32) : Option (Int32 × SX5) :=
  if a1 < 0 then
    (
    some ((-102 : Int32), S)
    )
  else
    (
    if (5 : Int32) ≤ a1 then
      (
      some ((-102 : Int32), S)
      )
    else
      (
      cv_bd (fX5_isNoKey a2) fun r3 =>
      if r3 = 0 then
        (
        if a3 < 0 then
          (
          some ((-102 : Int32), S)
          )
        else
          (
          if a3 ≤ (999 : Int32) then
            (
            if (gX5_open S) = 0 then
              (
              some ((-103 : Int32), S)
              )
            else
              (
              cv_bd (fX4_has (gX3_tree (gX5_now S)) a2) fun r8 =>
              if r8 = 0 then
                (
                cv_bd (fX4_isFull (gX3_tree (gX5_now S))) fun r10 =>
                if r10 = 0 then
                  (
                  cv_bd (fX3_place (gX5_now S) a1 a2 a3) fun r12 =>
                  cv_lt (sX5_now S r12.2) fun s13 =>
                  some (r12.1, s13)
                  )
                else
                  (
                  some ((-104 : Int32), S)
                  )
                )
              else
                (
                cv_gd (0 ≤ (a2).toInt ∧ (a2).toInt < 100) <|
                cv_bd (fX5_isAble ((gX3_kinds (gX5_now S)) (a2).toNatClampNeg) (1 : Int32)) fun r15 =>
                if r15 = 0 then
                  (
                  some ((-103 : Int32), S)
                  )
                else
                  (
                  cv_bd (fX3_place (gX5_now S) a1 a2 a3) fun r17 =>
                  cv_lt (sX5_now S r17.2) fun s18 =>
                  some (r17.1, s18)
                  )
                )
              )
            )
          else
            (
            some ((-102 : Int32), S)
            )
          )
        )
      else
        (
        some ((-102 : Int32), S)
        )
      )
    )
abbrev rX5_put : Room := { frames := 12, cells := 0, slots := 0, locals := 294 }
theorem iX5_put_X3 : ∀ w ∈ u_ws RX3 TX3 8, w ∈ wsX5_put := fun w h => List.mem_cons_of_mem _ (List.mem_append_left _ (List.mem_append_left _ (List.mem_append_right _ h)))
theorem iX5_put_X5 : ∀ w ∈ u_ws RX5 TX5 7, w ∈ wsX5_put := fun w h => List.mem_cons_of_mem _ (List.mem_append_left _ (List.mem_append_left _ (List.mem_append_left _ (List.mem_append_right _ h))))
set_option maxHeartbeats 4000000 in
set_option maxRecDepth 100000 in
theorem KX5_put {l : Launch} {σ : Nat → Nat} {D : va_G} {cy : ClassId} (q : Nat → Nat) (S : SX5) (a1 : Int32) (a2 : Int32) (a3 : Int32) {res : Int32 × SX5} (hm : fX5_put S a1 a2 a3 = some res) : cv_M l yX5_put wsX5_put rX5_put σ D [(cy, .int)] [.ref (q 0), .int a1, .int a2, .int a3] (wX5 q cy S) (some (.int res.1)) (wX5 q cy res.2) := by
  unfold fX5_put at hm
  refine cv_M.of (own := RX5) (by decide +kernel) rfl rfl (lv := [(0, .ref (q 0)), (1, .int a1), (2, .int a2), (3, .int a3)]) rfl (Nat.le_of_ble_eq_true rfl) ?_
  intro p e s m args below meth c A C hr hk
  refine cv_iload_n (i := 1) (q := 1) 1 C dX5_put_0 rfl rfl rfl ?_
  refine cv_if_lt (tgt := 27) (q := 4) C dX5_put_1 (by decide) rfl (fun h1 => ?_) (fun h1 => ?_)
  · have hm := cv_if_t h1 hm
    refine cv_bipush (v := -102) (q := 29) C dX5_put_27 (by decide) rfl ?_
    obtain rfl := Option.some.inj hm
    exact cv_iret C hr hk dX5_put_29
  · have hm := cv_if_f h1 hm
    refine cv_iload_n (i := 1) (q := 5) 1 C dX5_put_4 rfl rfl rfl ?_
    refine cv_iconst (v := 5) (q := 6) C dX5_put_5 (by decide) rfl ?_
    refine cv_icmp_ge (tgt := 27) (q := 9) C dX5_put_6 (by decide) rfl (fun h2 => ?_) (fun h2 => ?_)
    · have hm := cv_if_t h2 hm
      refine cv_bipush (v := -102) (q := 29) C dX5_put_27 (by decide) rfl ?_
      obtain rfl := Option.some.inj hm
      exact cv_iret C hr hk dX5_put_29
    · have hm := cv_if_f h2 hm
      refine cv_iload_n (i := 2) (q := 10) 2 C dX5_put_9 rfl rfl rfl ?_
      obtain ⟨r3, hr3, hm⟩ := cv_bd_s hm
      refine cv_goE (q := 13) C (KX5_isNoKey (l := l) (σ := σ) (D := D) (cy := cy)     a2 hr3) (cv_rs (As := [.int a2]) (st := []) (n := 1) C (KX5_isNoKey (l := l) (σ := σ) (D := D) (cy := cy)     a2 hr3) gX5_put_X5_isNoKey rfl ⟨rfl, rfl⟩ (by decide +kernel) rfl ⟨Nat.le_of_ble_eq_true rfl, Nat.le_of_ble_eq_true rfl⟩ rfl (Nat.le_of_ble_eq_true rfl) dX5_put_10 ⟨Nat.zero_le _, Nat.zero_le _⟩) rfl ?_
      refine cv_if_ne (tgt := 27) (q := 16) C dX5_put_13 (by decide) rfl (fun h4 => ?_) (fun h4 => ?_)
      · have hm := cv_if_f h4 hm
        refine cv_bipush (v := -102) (q := 29) C dX5_put_27 (by decide) rfl ?_
        obtain rfl := Option.some.inj hm
        exact cv_iret C hr hk dX5_put_29
      · have hm := cv_if_t h4 hm
        refine cv_iload_n (i := 3) (q := 17) 3 C dX5_put_16 rfl rfl rfl ?_
        refine cv_if_lt (tgt := 27) (q := 20) C dX5_put_17 (by decide) rfl (fun h5 => ?_) (fun h5 => ?_)
        · have hm := cv_if_t h5 hm
          refine cv_bipush (v := -102) (q := 29) C dX5_put_27 (by decide) rfl ?_
          obtain rfl := Option.some.inj hm
          exact cv_iret C hr hk dX5_put_29
        · have hm := cv_if_f h5 hm
          refine cv_iload_n (i := 3) (q := 21) 3 C dX5_put_20 rfl rfl rfl ?_
          refine cv_sipush (v := 999) (q := 24) C dX5_put_21 (by decide) rfl ?_
          refine cv_icmp_le (tgt := 30) (q := 27) C dX5_put_24 (by decide) rfl (fun h6 => ?_) (fun h6 => ?_)
          · have hm := cv_if_t h6 hm
            refine cv_aload_n (i := 0) (q := 31) 0 C dX5_put_30 rfl rfl rfl ?_
            refine cv_get (q := 34) C iX5_put_X5 0 rfl rfl 4 (by decide) (List.mem_of_getElem? (i := 1) rfl) rfl rfl dX5_put_31 rfl ?_
            refine cv_if_ne (tgt := 40) (q := 37) C dX5_put_34 (by decide) rfl (fun h7 => ?_) (fun h7 => ?_)
            · have hm := cv_if_f h7 hm
              refine cv_aload_n (i := 0) (q := 41) 0 C dX5_put_40 rfl rfl rfl ?_
              refine cv_get (q := 44) C iX5_put_X5 0 rfl rfl 1 (by decide) (List.mem_of_getElem? (i := 2) rfl) rfl rfl dX5_put_41 rfl ?_
              refine cv_get (q := 47) C iX5_put_X3 3 rfl rfl 0 (by decide) (List.mem_of_getElem? (i := 3) rfl) rfl rfl dX5_put_44 rfl ?_
              refine cv_iload_n (i := 2) (q := 48) 2 C dX5_put_47 rfl rfl rfl ?_
              obtain ⟨r8, hr8, hm⟩ := cv_bd_s hm
              refine cv_go (q := 51) (ws' := (wX5 q cy S)) C (KX4_has (l := l) (σ := σ) (D := D) (cy := cy)  (cv_sh q 4)  (gX3_tree (gX5_now S)) a2 hr8) (cv_rv (As := [.int a2]) (st := []) (n := 1) (q0 := 4) (ci := 4) C (KX4_has (l := l) (σ := σ) (D := D) (cy := cy)  (cv_sh q 4)  (gX3_tree (gX5_now S)) a2 hr8) rfl rfl gX5_put_X4_has rfl ⟨rfl, rfl⟩ (by decide +kernel) rfl ⟨Nat.le_of_ble_eq_true rfl, Nat.le_of_ble_eq_true rfl⟩ rfl (Nat.le_of_ble_eq_true rfl) dX5_put_48 ⟨Nat.zero_le _, Nat.zero_le _⟩) [4, 5, 6, 7, 8, 9] [0, 1, 2, 3, 10, 11, 12, 13, 14, 15, 16, 17, 18, 19, 20, 21, 22, 23, 24, 25, 26, 27, 28, 29, 30, 31, 32, 33, 34, 35, 36] rfl (wr := cv_pk (wX5 q cy S) [0, 1, 2, 3, 10, 11, 12, 13, 14, 15, 16, 17, 18, 19, 20, 21, 22, 23, 24, 25, 26, 27, 28, 29, 30, 31, 32, 33, 34, 35, 36]) rfl (by decide) (by decide) (by decide) [0, 1, 2, 3, 31, 32, 33, 34, 35, 36, 4, 5, 6, 7, 8, 9, 10, 11, 12, 13, 14, 15, 16, 17, 18, 19, 20, 21, 22, 23, 24, 25, 26, 27, 28, 29, 30] (by decide) rfl rfl ?_
              refine cv_if_eq (tgt := 73) (q := 54) C dX5_put_51 (by decide) rfl (fun h9 => ?_) (fun h9 => ?_)
              · have hm := cv_if_t h9 hm
                refine cv_aload_n (i := 0) (q := 74) 0 C dX5_put_73 rfl rfl rfl ?_
                refine cv_get (q := 77) C iX5_put_X5 0 rfl rfl 1 (by decide) (List.mem_of_getElem? (i := 2) rfl) rfl rfl dX5_put_74 rfl ?_
                refine cv_get (q := 80) C iX5_put_X3 3 rfl rfl 0 (by decide) (List.mem_of_getElem? (i := 3) rfl) rfl rfl dX5_put_77 rfl ?_
                obtain ⟨r10, hr10, hm⟩ := cv_bd_s hm
                refine cv_go (q := 83) (ws' := (wX5 q cy S)) C (KX4_isFull (l := l) (σ := σ) (D := D) (cy := cy)  (cv_sh q 4)  (gX3_tree (gX5_now S))  hr10) (cv_rv (As := []) (st := []) (n := 0) (q0 := 4) (ci := 4) C (KX4_isFull (l := l) (σ := σ) (D := D) (cy := cy)  (cv_sh q 4)  (gX3_tree (gX5_now S))  hr10) rfl rfl gX5_put_X4_isFull rfl ⟨rfl, rfl⟩ (by decide +kernel) rfl ⟨Nat.le_of_ble_eq_true rfl, Nat.le_of_ble_eq_true rfl⟩ rfl (Nat.le_of_ble_eq_true rfl) dX5_put_80 ⟨Nat.zero_le _, Nat.zero_le _⟩) [4, 5, 6, 7, 8, 9] [0, 1, 2, 3, 10, 11, 12, 13, 14, 15, 16, 17, 18, 19, 20, 21, 22, 23, 24, 25, 26, 27, 28, 29, 30, 31, 32, 33, 34, 35, 36] rfl (wr := cv_pk (wX5 q cy S) [0, 1, 2, 3, 10, 11, 12, 13, 14, 15, 16, 17, 18, 19, 20, 21, 22, 23, 24, 25, 26, 27, 28, 29, 30, 31, 32, 33, 34, 35, 36]) rfl (by decide) (by decide) (by decide) [0, 1, 2, 3, 31, 32, 33, 34, 35, 36, 4, 5, 6, 7, 8, 9, 10, 11, 12, 13, 14, 15, 16, 17, 18, 19, 20, 21, 22, 23, 24, 25, 26, 27, 28, 29, 30] (by decide) rfl rfl ?_
                refine cv_if_eq (tgt := 89) (q := 86) C dX5_put_83 (by decide) rfl (fun h11 => ?_) (fun h11 => ?_)
                · have hm := cv_if_t h11 hm
                  refine cv_aload_n (i := 0) (q := 90) 0 C dX5_put_89 rfl rfl rfl ?_
                  refine cv_get (q := 93) C iX5_put_X5 0 rfl rfl 1 (by decide) (List.mem_of_getElem? (i := 2) rfl) rfl rfl dX5_put_90 rfl ?_
                  refine cv_iload_n (i := 1) (q := 94) 1 C dX5_put_93 rfl rfl rfl ?_
                  refine cv_iload_n (i := 2) (q := 95) 2 C dX5_put_94 rfl rfl rfl ?_
                  refine cv_iload_n (i := 3) (q := 96) 3 C dX5_put_95 rfl rfl rfl ?_
                  obtain ⟨r12, hr12, hm⟩ := cv_bd_s hm
                  obtain ⟨s13, es13, hm⟩ := cv_lt_s hm
                  refine cv_go (q := 99) (ws' := (wX5 q cy s13)) C (KX3_place (l := l) (σ := σ) (D := D) (cy := cy)  (cv_sh q 3)  (gX5_now S) a1 a2 a3 hr12) (cv_rv (As := [.int a1, .int a2, .int a3]) (st := []) (n := 3) (q0 := 3) (ci := 3) C (KX3_place (l := l) (σ := σ) (D := D) (cy := cy)  (cv_sh q 3)  (gX5_now S) a1 a2 a3 hr12) rfl rfl gX5_put_X3_place rfl ⟨rfl, rfl⟩ (by decide +kernel) rfl ⟨Nat.le_of_ble_eq_true rfl, Nat.le_of_ble_eq_true rfl⟩ rfl (Nat.le_of_ble_eq_true rfl) dX5_put_96 ⟨Nat.zero_le _, Nat.zero_le _⟩) [3, 4, 5, 6, 7, 8, 9, 10, 11, 12, 13, 14, 15, 16] [0, 1, 2, 17, 18, 19, 20, 21, 22, 23, 24, 25, 26, 27, 28, 29, 30, 31, 32, 33, 34, 35, 36] rfl (wr := cv_pk (wX5 q cy S) [0, 1, 2, 17, 18, 19, 20, 21, 22, 23, 24, 25, 26, 27, 28, 29, 30, 31, 32, 33, 34, 35, 36]) rfl (by decide) (by decide) (by decide) [0, 1, 2, 23, 24, 25, 26, 27, 28, 29, 30, 31, 32, 33, 34, 35, 36, 3, 4, 5, 6, 7, 8, 9, 10, 11, 12, 13, 14, 15, 16, 17, 18, 19, 20, 21, 22] (by decide) (by rw [es13]; rfl) rfl ?_
                  obtain rfl := Option.some.inj hm
                  exact cv_iret C hr hk dX5_put_99
                · have hm := cv_if_f h11 hm
                  refine cv_bipush (v := -104) (q := 88) C dX5_put_86 (by decide) rfl ?_
                  obtain rfl := Option.some.inj hm
                  exact cv_iret C hr hk dX5_put_88
              · have hm := cv_if_f h9 hm
                refine cv_aload_n (i := 0) (q := 55) 0 C dX5_put_54 rfl rfl rfl ?_
                refine cv_get (q := 58) C iX5_put_X5 0 rfl rfl 1 (by decide) (List.mem_of_getElem? (i := 2) rfl) rfl rfl dX5_put_55 rfl ?_
                refine cv_get (q := 61) C iX5_put_X3 3 rfl rfl 1 (by decide) (List.mem_of_getElem? (i := 4) rfl) rfl rfl dX5_put_58 rfl ?_
                refine cv_iload_n (i := 2) (q := 62) 2 C dX5_put_61 rfl rfl rfl ?_
                obtain ⟨g14, hm⟩ := cv_gd_s hm
                refine cv_iald (q := 63) C 10 0 rfl rfl (vp_in_iff.mpr g14) dX5_put_62 rfl ?_
                refine cv_iconst (v := 1) (q := 64) C dX5_put_63 (by decide) rfl ?_
                obtain ⟨r15, hr15, hm⟩ := cv_bd_s hm
                refine cv_goE (q := 67) C (KX5_isAble (l := l) (σ := σ) (D := D) (cy := cy)     ((gX3_kinds (gX5_now S)) (a2).toNatClampNeg) (1 : Int32) hr15) (cv_rs (As := [.int ((gX3_kinds (gX5_now S)) (a2).toNatClampNeg), .int (1 : Int32)]) (st := []) (n := 2) C (KX5_isAble (l := l) (σ := σ) (D := D) (cy := cy)     ((gX3_kinds (gX5_now S)) (a2).toNatClampNeg) (1 : Int32) hr15) gX5_put_X5_isAble rfl ⟨rfl, rfl⟩ (by decide +kernel) rfl ⟨Nat.le_of_ble_eq_true rfl, Nat.le_of_ble_eq_true rfl⟩ rfl (Nat.le_of_ble_eq_true rfl) dX5_put_64 ⟨Nat.zero_le _, Nat.zero_le _⟩) rfl ?_
                refine cv_if_ne (tgt := 89) (q := 70) C dX5_put_67 (by decide) rfl (fun h16 => ?_) (fun h16 => ?_)
                · have hm := cv_if_f h16 hm
                  refine cv_aload_n (i := 0) (q := 90) 0 C dX5_put_89 rfl rfl rfl ?_
                  refine cv_get (q := 93) C iX5_put_X5 0 rfl rfl 1 (by decide) (List.mem_of_getElem? (i := 2) rfl) rfl rfl dX5_put_90 rfl ?_
                  refine cv_iload_n (i := 1) (q := 94) 1 C dX5_put_93 rfl rfl rfl ?_
                  refine cv_iload_n (i := 2) (q := 95) 2 C dX5_put_94 rfl rfl rfl ?_
                  refine cv_iload_n (i := 3) (q := 96) 3 C dX5_put_95 rfl rfl rfl ?_
                  obtain ⟨r17, hr17, hm⟩ := cv_bd_s hm
                  obtain ⟨s18, es18, hm⟩ := cv_lt_s hm
                  refine cv_go (q := 99) (ws' := (wX5 q cy s18)) C (KX3_place (l := l) (σ := σ) (D := D) (cy := cy)  (cv_sh q 3)  (gX5_now S) a1 a2 a3 hr17) (cv_rv (As := [.int a1, .int a2, .int a3]) (st := []) (n := 3) (q0 := 3) (ci := 3) C (KX3_place (l := l) (σ := σ) (D := D) (cy := cy)  (cv_sh q 3)  (gX5_now S) a1 a2 a3 hr17) rfl rfl gX5_put_X3_place rfl ⟨rfl, rfl⟩ (by decide +kernel) rfl ⟨Nat.le_of_ble_eq_true rfl, Nat.le_of_ble_eq_true rfl⟩ rfl (Nat.le_of_ble_eq_true rfl) dX5_put_96 ⟨Nat.zero_le _, Nat.zero_le _⟩) [3, 4, 5, 6, 7, 8, 9, 10, 11, 12, 13, 14, 15, 16] [0, 1, 2, 17, 18, 19, 20, 21, 22, 23, 24, 25, 26, 27, 28, 29, 30, 31, 32, 33, 34, 35, 36] rfl (wr := cv_pk (wX5 q cy S) [0, 1, 2, 17, 18, 19, 20, 21, 22, 23, 24, 25, 26, 27, 28, 29, 30, 31, 32, 33, 34, 35, 36]) rfl (by decide) (by decide) (by decide) [0, 1, 2, 23, 24, 25, 26, 27, 28, 29, 30, 31, 32, 33, 34, 35, 36, 3, 4, 5, 6, 7, 8, 9, 10, 11, 12, 13, 14, 15, 16, 17, 18, 19, 20, 21, 22] (by decide) (by rw [es18]; rfl) rfl ?_
                  obtain rfl := Option.some.inj hm
                  exact cv_iret C hr hk dX5_put_99
                · have hm := cv_if_t h16 hm
                  refine cv_bipush (v := -103) (q := 72) C dX5_put_70 (by decide) rfl ?_
                  obtain rfl := Option.some.inj hm
                  exact cv_iret C hr hk dX5_put_72
            · have hm := cv_if_t h7 hm
              refine cv_bipush (v := -103) (q := 39) C dX5_put_37 (by decide) rfl ?_
              obtain rfl := Option.some.inj hm
              exact cv_iret C hr hk dX5_put_39
          · have hm := cv_if_f h6 hm
            refine cv_bipush (v := -102) (q := 29) C dX5_put_27 (by decide) rfl ?_
            obtain rfl := Option.some.inj hm
            exact cv_iret C hr hk dX5_put_29
def fX5_take (S : SX5) (a1 : Int32) : Option (Int32 × SX5) :=
  cv_bd (fX4_has (gX3_tree (gX5_now S)) a1) fun r1 =>
  if r1 = 0 then
    (
    some ((-101 : Int32), S)
    )
  else
    (
    cv_gd (0 ≤ (a1).toInt ∧ (a1).toInt < 100) <|
    cv_bd (fX5_isAble ((gX3_kinds (gX5_now S)) (a1).toNatClampNeg) (0 : Int32)) fun r4 =>
    if r4 = 0 then
      (
      some ((-103 : Int32), S)
      )
    else
      (
      cv_gd (0 ≤ (a1).toInt ∧ (a1).toInt < 100) <|
      cv_lt (((gX3_values (gX5_now S)) (a1).toNatClampNeg)) fun x7 =>
      cv_bd (fX3_remove (gX5_now S) a1) fun r8 =>
      cv_lt (sX5_now S r8) fun s9 =>
      some (x7, s9)
      )
    )
abbrev rX5_take : Room := { frames := 13, cells := 0, slots := 0, locals := 310 }
theorem iX5_take_X3 : ∀ w ∈ u_ws RX3 TX3 8, w ∈ wsX5_take := fun w h => List.mem_cons_of_mem _ (List.mem_append_left _ (List.mem_append_left _ (List.mem_append_right _ h)))
theorem iX5_take_X5 : ∀ w ∈ u_ws RX5 TX5 7, w ∈ wsX5_take := fun w h => List.mem_cons_of_mem _ (List.mem_append_left _ (List.mem_append_left _ (List.mem_append_left _ (List.mem_append_right _ h))))
set_option maxHeartbeats 4000000 in
set_option maxRecDepth 100000 in
theorem KX5_take {l : Launch} {σ : Nat → Nat} {D : va_G} {cy : ClassId} (q : Nat → Nat) (S : SX5) (a1 : Int32) {res : Int32 × SX5} (hm : fX5_take S a1 = some res) : cv_M l yX5_take wsX5_take rX5_take σ D [(cy, .int)] [.ref (q 0), .int a1] (wX5 q cy S) (some (.int res.1)) (wX5 q cy res.2) := by
  unfold fX5_take at hm
  refine cv_M.of (own := RX5) (by decide +kernel) rfl rfl (lv := [(0, .ref (q 0)), (1, .int a1)]) rfl (Nat.le_of_ble_eq_true rfl) ?_
  intro p e s m args below meth c A C hr hk
  refine cv_aload_n (i := 0) (q := 1) 0 C dX5_take_0 rfl rfl rfl ?_
  refine cv_get (q := 4) C iX5_take_X5 0 rfl rfl 1 (by decide) (List.mem_of_getElem? (i := 1) rfl) rfl rfl dX5_take_1 rfl ?_
  refine cv_get (q := 7) C iX5_take_X3 3 rfl rfl 0 (by decide) (List.mem_of_getElem? (i := 2) rfl) rfl rfl dX5_take_4 rfl ?_
  refine cv_iload_n (i := 1) (q := 8) 1 C dX5_take_7 rfl rfl rfl ?_
  obtain ⟨r1, hr1, hm⟩ := cv_bd_s hm
  refine cv_go (q := 11) (ws' := (wX5 q cy S)) C (KX4_has (l := l) (σ := σ) (D := D) (cy := cy)  (cv_sh q 4)  (gX3_tree (gX5_now S)) a1 hr1) (cv_rv (As := [.int a1]) (st := []) (n := 1) (q0 := 4) (ci := 4) C (KX4_has (l := l) (σ := σ) (D := D) (cy := cy)  (cv_sh q 4)  (gX3_tree (gX5_now S)) a1 hr1) rfl rfl gX5_take_X4_has rfl ⟨rfl, rfl⟩ (by decide +kernel) rfl ⟨Nat.le_of_ble_eq_true rfl, Nat.le_of_ble_eq_true rfl⟩ rfl (Nat.le_of_ble_eq_true rfl) dX5_take_8 ⟨Nat.zero_le _, Nat.zero_le _⟩) [4, 5, 6, 7, 8, 9] [0, 1, 2, 3, 10, 11, 12, 13, 14, 15, 16, 17, 18, 19, 20, 21, 22, 23, 24, 25, 26, 27, 28, 29, 30, 31, 32, 33, 34, 35, 36] rfl (wr := cv_pk (wX5 q cy S) [0, 1, 2, 3, 10, 11, 12, 13, 14, 15, 16, 17, 18, 19, 20, 21, 22, 23, 24, 25, 26, 27, 28, 29, 30, 31, 32, 33, 34, 35, 36]) rfl (by decide) (by decide) (by decide) [0, 1, 2, 3, 31, 32, 33, 34, 35, 36, 4, 5, 6, 7, 8, 9, 10, 11, 12, 13, 14, 15, 16, 17, 18, 19, 20, 21, 22, 23, 24, 25, 26, 27, 28, 29, 30] (by decide) rfl rfl ?_
  refine cv_if_ne (tgt := 17) (q := 14) C dX5_take_11 (by decide) rfl (fun h2 => ?_) (fun h2 => ?_)
  · have hm := cv_if_f h2 hm
    refine cv_aload_n (i := 0) (q := 18) 0 C dX5_take_17 rfl rfl rfl ?_
    refine cv_get (q := 21) C iX5_take_X5 0 rfl rfl 1 (by decide) (List.mem_of_getElem? (i := 1) rfl) rfl rfl dX5_take_18 rfl ?_
    refine cv_get (q := 24) C iX5_take_X3 3 rfl rfl 1 (by decide) (List.mem_of_getElem? (i := 3) rfl) rfl rfl dX5_take_21 rfl ?_
    refine cv_iload_n (i := 1) (q := 25) 1 C dX5_take_24 rfl rfl rfl ?_
    obtain ⟨g3, hm⟩ := cv_gd_s hm
    refine cv_iald (q := 26) C 10 0 rfl rfl (vp_in_iff.mpr g3) dX5_take_25 rfl ?_
    refine cv_iconst (v := 0) (q := 27) C dX5_take_26 (by decide) rfl ?_
    obtain ⟨r4, hr4, hm⟩ := cv_bd_s hm
    refine cv_goE (q := 30) C (KX5_isAble (l := l) (σ := σ) (D := D) (cy := cy)     ((gX3_kinds (gX5_now S)) (a1).toNatClampNeg) (0 : Int32) hr4) (cv_rs (As := [.int ((gX3_kinds (gX5_now S)) (a1).toNatClampNeg), .int (0 : Int32)]) (st := []) (n := 2) C (KX5_isAble (l := l) (σ := σ) (D := D) (cy := cy)     ((gX3_kinds (gX5_now S)) (a1).toNatClampNeg) (0 : Int32) hr4) gX5_take_X5_isAble rfl ⟨rfl, rfl⟩ (by decide +kernel) rfl ⟨Nat.le_of_ble_eq_true rfl, Nat.le_of_ble_eq_true rfl⟩ rfl (Nat.le_of_ble_eq_true rfl) dX5_take_27 ⟨Nat.zero_le _, Nat.zero_le _⟩) rfl ?_
    refine cv_if_ne (tgt := 36) (q := 33) C dX5_take_30 (by decide) rfl (fun h5 => ?_) (fun h5 => ?_)
    · have hm := cv_if_f h5 hm
      refine cv_aload_n (i := 0) (q := 37) 0 C dX5_take_36 rfl rfl rfl ?_
      refine cv_get (q := 40) C iX5_take_X5 0 rfl rfl 1 (by decide) (List.mem_of_getElem? (i := 1) rfl) rfl rfl dX5_take_37 rfl ?_
      refine cv_get (q := 43) C iX5_take_X3 3 rfl rfl 2 (by decide) (List.mem_of_getElem? (i := 4) rfl) rfl rfl dX5_take_40 rfl ?_
      refine cv_iload_n (i := 1) (q := 44) 1 C dX5_take_43 rfl rfl rfl ?_
      obtain ⟨g6, hm⟩ := cv_gd_s hm
      refine cv_iald (q := 45) C 11 0 rfl rfl (vp_in_iff.mpr g6) dX5_take_44 rfl ?_
      obtain ⟨x7, ex7, hm⟩ := cv_lt_s hm
      refine cv_topi ex7 ?_
      refine cv_istore_n (i := 2) (lv' := [(2, .int x7), (0, .ref (q 0)), (1, .int a1)]) (q := 46) C dX5_take_45 rfl (by decide) rfl rfl ?_
      refine cv_aload_n (i := 0) (q := 47) 1 C dX5_take_46 rfl rfl rfl ?_
      refine cv_get (q := 50) C iX5_take_X5 0 rfl rfl 1 (by decide) (List.mem_of_getElem? (i := 1) rfl) rfl rfl dX5_take_47 rfl ?_
      refine cv_iload_n (i := 1) (q := 51) 2 C dX5_take_50 rfl rfl rfl ?_
      obtain ⟨r8, hr8, hm⟩ := cv_bd_s hm
      obtain ⟨s9, es9, hm⟩ := cv_lt_s hm
      refine cv_go (q := 54) (ws' := (wX5 q cy s9)) C (KX3_remove (l := l) (σ := σ) (D := D) (cy := cy)  (cv_sh q 3)  (gX5_now S) a1 hr8) (cv_rv (As := [.int a1]) (st := []) (n := 1) (q0 := 3) (ci := 3) C (KX3_remove (l := l) (σ := σ) (D := D) (cy := cy)  (cv_sh q 3)  (gX5_now S) a1 hr8) rfl rfl gX5_take_X3_remove rfl ⟨rfl, rfl⟩ (by decide +kernel) rfl ⟨Nat.le_of_ble_eq_true rfl, Nat.le_of_ble_eq_true rfl⟩ rfl (Nat.le_of_ble_eq_true rfl) dX5_take_51 ⟨Nat.zero_le _, Nat.zero_le _⟩) [3, 4, 5, 6, 7, 8, 9, 10, 11, 12, 13, 14, 15, 16] [0, 1, 2, 17, 18, 19, 20, 21, 22, 23, 24, 25, 26, 27, 28, 29, 30, 31, 32, 33, 34, 35, 36] rfl (wr := cv_pk (wX5 q cy S) [0, 1, 2, 17, 18, 19, 20, 21, 22, 23, 24, 25, 26, 27, 28, 29, 30, 31, 32, 33, 34, 35, 36]) rfl (by decide) (by decide) (by decide) [0, 1, 2, 23, 24, 25, 26, 27, 28, 29, 30, 31, 32, 33, 34, 35, 36, 3, 4, 5, 6, 7, 8, 9, 10, 11, 12, 13, 14, 15, 16, 17, 18, 19, 20, 21, 22] (by decide) (by rw [es9]; rfl) rfl ?_
      refine cv_iload_n (i := 2) (q := 55) 0 C dX5_take_54 rfl rfl rfl ?_
      obtain rfl := Option.some.inj hm
      exact cv_iret C hr hk dX5_take_55
    · have hm := cv_if_t h5 hm
      refine cv_bipush (v := -103) (q := 35) C dX5_take_33 (by decide) rfl ?_
      obtain rfl := Option.some.inj hm
      exact cv_iret C hr hk dX5_take_35
  · have hm := cv_if_t h2 hm
    refine cv_bipush (v := -101) (q := 16) C dX5_take_14 (by decide) rfl ?_
    obtain rfl := Option.some.inj hm
    exact cv_iret C hr hk dX5_take_16
def fX5_tell (S : SX5) (a1 : Int32) : Option (Int32 × SX5) :=
  cv_bd (fX4_has (gX3_tree (gX5_now S)) a1) fun r1 =>
  if r1 = 0 then
    (
    some ((-101 : Int32), S)
    )
  else
    (
    cv_gd (0 ≤ (a1).toInt ∧ (a1).toInt < 100) <|
    cv_lt (((gX3_values (gX5_now S)) (a1).toNatClampNeg)) fun x4 =>
    cv_gd (0 ≤ (a1).toInt ∧ (a1).toInt < 100) <|
    if ((gX3_kinds (gX5_now S)) (a1).toNatClampNeg) = (2 : Int32) then
      (
      cv_gd (0 ≤ (a1).toInt ∧ (a1).toInt < 100) <|
      cv_lt (sX5_now S (sX3_values (gX5_now S) (upd (gX3_values (gX5_now S)) (a1).toNatClampNeg (cv_min (x4 + (1 : Int32)) (999 : Int32))))) fun s12 =>
      some (x4, s12)
      )
    else
      (
      cv_gd (0 ≤ (a1).toInt ∧ (a1).toInt < 100) <|
      if ((gX3_kinds (gX5_now S)) (a1).toNatClampNeg) = (3 : Int32) then
        (
        cv_bd (fX3_remove (gX5_now S) a1) fun r9 =>
        cv_lt (sX5_now S r9) fun s10 =>
        some (x4, s10)
        )
      else
        (
        some (x4, S)
        )
      )
    )
abbrev rX5_tell : Room := { frames := 13, cells := 0, slots := 0, locals := 310 }
theorem iX5_tell_X3 : ∀ w ∈ u_ws RX3 TX3 8, w ∈ wsX5_tell := fun w h => List.mem_cons_of_mem _ (List.mem_append_left _ (List.mem_append_left _ (List.mem_append_right _ h)))
theorem iX5_tell_X5 : ∀ w ∈ u_ws RX5 TX5 7, w ∈ wsX5_tell := fun w h => List.mem_cons_of_mem _ (List.mem_append_left _ (List.mem_append_left _ (List.mem_append_left _ (List.mem_append_right _ h))))
set_option maxHeartbeats 4000000 in
set_option maxRecDepth 100000 in
theorem KX5_tell {l : Launch} {σ : Nat → Nat} {D : va_G} {cy : ClassId} (q : Nat → Nat) (S : SX5) (a1 : Int32) {res : Int32 × SX5} (hm : fX5_tell S a1 = some res) : cv_M l yX5_tell wsX5_tell rX5_tell σ D [(cy, .int)] [.ref (q 0), .int a1] (wX5 q cy S) (some (.int res.1)) (wX5 q cy res.2) := by
  unfold fX5_tell at hm
  refine cv_M.of (own := RX5) (by decide +kernel) rfl rfl (lv := [(0, .ref (q 0)), (1, .int a1)]) rfl (Nat.le_of_ble_eq_true rfl) ?_
  intro p e s m args below meth c A C hr hk
  refine cv_aload_n (i := 0) (q := 1) 0 C dX5_tell_0 rfl rfl rfl ?_
  refine cv_get (q := 4) C iX5_tell_X5 0 rfl rfl 1 (by decide) (List.mem_of_getElem? (i := 1) rfl) rfl rfl dX5_tell_1 rfl ?_
  refine cv_get (q := 7) C iX5_tell_X3 3 rfl rfl 0 (by decide) (List.mem_of_getElem? (i := 2) rfl) rfl rfl dX5_tell_4 rfl ?_
  refine cv_iload_n (i := 1) (q := 8) 1 C dX5_tell_7 rfl rfl rfl ?_
  obtain ⟨r1, hr1, hm⟩ := cv_bd_s hm
  refine cv_go (q := 11) (ws' := (wX5 q cy S)) C (KX4_has (l := l) (σ := σ) (D := D) (cy := cy)  (cv_sh q 4)  (gX3_tree (gX5_now S)) a1 hr1) (cv_rv (As := [.int a1]) (st := []) (n := 1) (q0 := 4) (ci := 4) C (KX4_has (l := l) (σ := σ) (D := D) (cy := cy)  (cv_sh q 4)  (gX3_tree (gX5_now S)) a1 hr1) rfl rfl gX5_tell_X4_has rfl ⟨rfl, rfl⟩ (by decide +kernel) rfl ⟨Nat.le_of_ble_eq_true rfl, Nat.le_of_ble_eq_true rfl⟩ rfl (Nat.le_of_ble_eq_true rfl) dX5_tell_8 ⟨Nat.zero_le _, Nat.zero_le _⟩) [4, 5, 6, 7, 8, 9] [0, 1, 2, 3, 10, 11, 12, 13, 14, 15, 16, 17, 18, 19, 20, 21, 22, 23, 24, 25, 26, 27, 28, 29, 30, 31, 32, 33, 34, 35, 36] rfl (wr := cv_pk (wX5 q cy S) [0, 1, 2, 3, 10, 11, 12, 13, 14, 15, 16, 17, 18, 19, 20, 21, 22, 23, 24, 25, 26, 27, 28, 29, 30, 31, 32, 33, 34, 35, 36]) rfl (by decide) (by decide) (by decide) [0, 1, 2, 3, 31, 32, 33, 34, 35, 36, 4, 5, 6, 7, 8, 9, 10, 11, 12, 13, 14, 15, 16, 17, 18, 19, 20, 21, 22, 23, 24, 25, 26, 27, 28, 29, 30] (by decide) rfl rfl ?_
  refine cv_if_ne (tgt := 17) (q := 14) C dX5_tell_11 (by decide) rfl (fun h2 => ?_) (fun h2 => ?_)
  · have hm := cv_if_f h2 hm
    refine cv_aload_n (i := 0) (q := 18) 0 C dX5_tell_17 rfl rfl rfl ?_
    refine cv_get (q := 21) C iX5_tell_X5 0 rfl rfl 1 (by decide) (List.mem_of_getElem? (i := 1) rfl) rfl rfl dX5_tell_18 rfl ?_
    refine cv_get (q := 24) C iX5_tell_X3 3 rfl rfl 2 (by decide) (List.mem_of_getElem? (i := 3) rfl) rfl rfl dX5_tell_21 rfl ?_
    refine cv_iload_n (i := 1) (q := 25) 1 C dX5_tell_24 rfl rfl rfl ?_
    obtain ⟨g3, hm⟩ := cv_gd_s hm
    refine cv_iald (q := 26) C 11 0 rfl rfl (vp_in_iff.mpr g3) dX5_tell_25 rfl ?_
    obtain ⟨x4, ex4, hm⟩ := cv_lt_s hm
    refine cv_topi ex4 ?_
    refine cv_istore_n (i := 2) (lv' := [(2, .int x4), (0, .ref (q 0)), (1, .int a1)]) (q := 27) C dX5_tell_26 rfl (by decide) rfl rfl ?_
    refine cv_aload_n (i := 0) (q := 28) 1 C dX5_tell_27 rfl rfl rfl ?_
    refine cv_get (q := 31) C iX5_tell_X5 0 rfl rfl 1 (by decide) (List.mem_of_getElem? (i := 1) rfl) rfl rfl dX5_tell_28 rfl ?_
    refine cv_get (q := 34) C iX5_tell_X3 3 rfl rfl 1 (by decide) (List.mem_of_getElem? (i := 4) rfl) rfl rfl dX5_tell_31 rfl ?_
    refine cv_iload_n (i := 1) (q := 35) 2 C dX5_tell_34 rfl rfl rfl ?_
    obtain ⟨g5, hm⟩ := cv_gd_s hm
    refine cv_iald (q := 36) C 10 0 rfl rfl (vp_in_iff.mpr g5) dX5_tell_35 rfl ?_
    refine cv_iconst (v := 2) (q := 37) C dX5_tell_36 (by decide) rfl ?_
    refine cv_icmp_ne (tgt := 61) (q := 40) C dX5_tell_37 (by decide) rfl (fun h6 => ?_) (fun h6 => ?_)
    · have hm := cv_if_f h6 hm
      refine cv_aload_n (i := 0) (q := 62) 1 C dX5_tell_61 rfl rfl rfl ?_
      refine cv_get (q := 65) C iX5_tell_X5 0 rfl rfl 1 (by decide) (List.mem_of_getElem? (i := 1) rfl) rfl rfl dX5_tell_62 rfl ?_
      refine cv_get (q := 68) C iX5_tell_X3 3 rfl rfl 1 (by decide) (List.mem_of_getElem? (i := 4) rfl) rfl rfl dX5_tell_65 rfl ?_
      refine cv_iload_n (i := 1) (q := 69) 2 C dX5_tell_68 rfl rfl rfl ?_
      obtain ⟨g7, hm⟩ := cv_gd_s hm
      refine cv_iald (q := 70) C 10 0 rfl rfl (vp_in_iff.mpr g7) dX5_tell_69 rfl ?_
      refine cv_iconst (v := 3) (q := 71) C dX5_tell_70 (by decide) rfl ?_
      refine cv_icmp_ne (tgt := 82) (q := 74) C dX5_tell_71 (by decide) rfl (fun h8 => ?_) (fun h8 => ?_)
      · have hm := cv_if_f h8 hm
        refine cv_iload_n (i := 2) (q := 83) 0 C dX5_tell_82 rfl rfl rfl ?_
        obtain rfl := Option.some.inj hm
        exact cv_iret C hr hk dX5_tell_83
      · have hm := cv_if_t h8 hm
        refine cv_aload_n (i := 0) (q := 75) 1 C dX5_tell_74 rfl rfl rfl ?_
        refine cv_get (q := 78) C iX5_tell_X5 0 rfl rfl 1 (by decide) (List.mem_of_getElem? (i := 1) rfl) rfl rfl dX5_tell_75 rfl ?_
        refine cv_iload_n (i := 1) (q := 79) 2 C dX5_tell_78 rfl rfl rfl ?_
        obtain ⟨r9, hr9, hm⟩ := cv_bd_s hm
        obtain ⟨s10, es10, hm⟩ := cv_lt_s hm
        refine cv_go (q := 82) (ws' := (wX5 q cy s10)) C (KX3_remove (l := l) (σ := σ) (D := D) (cy := cy)  (cv_sh q 3)  (gX5_now S) a1 hr9) (cv_rv (As := [.int a1]) (st := []) (n := 1) (q0 := 3) (ci := 3) C (KX3_remove (l := l) (σ := σ) (D := D) (cy := cy)  (cv_sh q 3)  (gX5_now S) a1 hr9) rfl rfl gX5_tell_X3_remove rfl ⟨rfl, rfl⟩ (by decide +kernel) rfl ⟨Nat.le_of_ble_eq_true rfl, Nat.le_of_ble_eq_true rfl⟩ rfl (Nat.le_of_ble_eq_true rfl) dX5_tell_79 ⟨Nat.zero_le _, Nat.zero_le _⟩) [3, 4, 5, 6, 7, 8, 9, 10, 11, 12, 13, 14, 15, 16] [0, 1, 2, 17, 18, 19, 20, 21, 22, 23, 24, 25, 26, 27, 28, 29, 30, 31, 32, 33, 34, 35, 36] rfl (wr := cv_pk (wX5 q cy S) [0, 1, 2, 17, 18, 19, 20, 21, 22, 23, 24, 25, 26, 27, 28, 29, 30, 31, 32, 33, 34, 35, 36]) rfl (by decide) (by decide) (by decide) [0, 1, 2, 23, 24, 25, 26, 27, 28, 29, 30, 31, 32, 33, 34, 35, 36, 3, 4, 5, 6, 7, 8, 9, 10, 11, 12, 13, 14, 15, 16, 17, 18, 19, 20, 21, 22] (by decide) (by rw [es10]; rfl) rfl ?_
        refine cv_iload_n (i := 2) (q := 83) 0 C dX5_tell_82 rfl rfl rfl ?_
        obtain rfl := Option.some.inj hm
        exact cv_iret C hr hk dX5_tell_83
    · have hm := cv_if_t h6 hm
      refine cv_aload_n (i := 0) (q := 41) 1 C dX5_tell_40 rfl rfl rfl ?_
      refine cv_get (q := 44) C iX5_tell_X5 0 rfl rfl 1 (by decide) (List.mem_of_getElem? (i := 1) rfl) rfl rfl dX5_tell_41 rfl ?_
      refine cv_get (q := 47) C iX5_tell_X3 3 rfl rfl 2 (by decide) (List.mem_of_getElem? (i := 3) rfl) rfl rfl dX5_tell_44 rfl ?_
      refine cv_iload_n (i := 1) (q := 48) 2 C dX5_tell_47 rfl rfl rfl ?_
      refine cv_iload_n (i := 2) (q := 49) 0 C dX5_tell_48 rfl rfl rfl ?_
      refine cv_iconst (v := 1) (q := 50) C dX5_tell_49 (by decide) rfl ?_
      refine cv_iadd (q := 51) C dX5_tell_50 rfl ?_
      refine cv_sipush (v := 999) (q := 54) C dX5_tell_51 (by decide) rfl ?_
      refine cv_mmin (q := 57) C (List.mem_of_getElem? (i := 5) rfl) (List.mem_of_getElem? (i := 6) rfl) (List.mem_of_getElem? (i := 7) rfl) (List.mem_of_getElem? (i := 8) rfl) (Nat.le_of_ble_eq_true rfl) (Nat.le_of_ble_eq_true rfl) dX5_tell_54 rfl (Nat.zero_le _) (Nat.zero_le _) ?_
      obtain ⟨g11, hm⟩ := cv_gd_s hm
      obtain ⟨s12, es12, hm⟩ := cv_lt_s hm
      refine cv_iast (q := 58) (ws' := (wX5 q cy s12)) C 11 0 rfl rfl (vp_in_iff.mpr g11) dX5_tell_57 rfl (by rw [es12]; rfl) ?_
      refine cv_goto (tgt := 82) C dX5_tell_58 (by decide) ?_
      refine cv_iload_n (i := 2) (q := 83) 0 C dX5_tell_82 rfl rfl rfl ?_
      obtain rfl := Option.some.inj hm
      exact cv_iret C hr hk dX5_tell_83
  · have hm := cv_if_t h2 hm
    refine cv_bipush (v := -101) (q := 16) C dX5_tell_14 (by decide) rfl ?_
    obtain rfl := Option.some.inj hm
    exact cv_iret C hr hk dX5_tell_16
def fX5_flatten (S : SX5) : Option (Int32 × SX5) :=
  if (gX5_open S) = 0 then
    (
    some ((-103 : Int32), S)
    )
  else
    (
    cv_bd (fX4_buildAll (gX3_tree (gX5_now S))) fun r2 =>
    cv_lt (sX5_now S (sX3_tree (gX5_now S) r2.2)) fun s3 =>
    cv_bd (fX3_settle (gX5_now s3) r2.1) fun r4 =>
    cv_lt (sX5_now s3 r4) fun s5 =>
    some ((gX4_number (gX3_tree (gX5_now s5))), s5)
    )
abbrev rX5_flatten : Room := { frames := 11, cells := 0, slots := 0, locals := 267 }
theorem iX5_flatten_X3 : ∀ w ∈ u_ws RX3 TX3 8, w ∈ wsX5_flatten := fun w h => List.mem_cons_of_mem _ (List.mem_append_left _ (List.mem_append_right _ h))
theorem iX5_flatten_X4 : ∀ w ∈ u_ws RX4 TX4 12, w ∈ wsX5_flatten := fun w h => List.mem_cons_of_mem _ (List.mem_append_right _ h)
theorem iX5_flatten_X5 : ∀ w ∈ u_ws RX5 TX5 7, w ∈ wsX5_flatten := fun w h => List.mem_cons_of_mem _ (List.mem_append_left _ (List.mem_append_left _ (List.mem_append_right _ h)))
set_option maxHeartbeats 4000000 in
set_option maxRecDepth 100000 in
theorem KX5_flatten {l : Launch} {σ : Nat → Nat} {D : va_G} {cy : ClassId} (q : Nat → Nat) (S : SX5) {res : Int32 × SX5} (hm : fX5_flatten S = some res) : cv_M l yX5_flatten wsX5_flatten rX5_flatten σ D [(cy, .int)] [.ref (q 0)] (wX5 q cy S) (some (.int res.1)) (wX5 q cy res.2) := by
  unfold fX5_flatten at hm
  refine cv_M.of (own := RX5) (by decide +kernel) rfl rfl (lv := [(0, .ref (q 0))]) rfl (Nat.le_of_ble_eq_true rfl) ?_
  intro p e s m args below meth c A C hr hk
  refine cv_aload_n (i := 0) (q := 1) 0 C dX5_flatten_0 rfl rfl rfl ?_
  refine cv_get (q := 4) C iX5_flatten_X5 0 rfl rfl 4 (by decide) (List.mem_of_getElem? (i := 1) rfl) rfl rfl dX5_flatten_1 rfl ?_
  refine cv_if_ne (tgt := 10) (q := 7) C dX5_flatten_4 (by decide) rfl (fun h1 => ?_) (fun h1 => ?_)
  · have hm := cv_if_f h1 hm
    refine cv_aload_n (i := 0) (q := 11) 0 C dX5_flatten_10 rfl rfl rfl ?_
    refine cv_get (q := 14) C iX5_flatten_X5 0 rfl rfl 1 (by decide) (List.mem_of_getElem? (i := 2) rfl) rfl rfl dX5_flatten_11 rfl ?_
    refine cv_aload_n (i := 0) (q := 15) 0 C dX5_flatten_14 rfl rfl rfl ?_
    refine cv_get (q := 18) C iX5_flatten_X5 0 rfl rfl 1 (by decide) (List.mem_of_getElem? (i := 2) rfl) rfl rfl dX5_flatten_15 rfl ?_
    refine cv_get (q := 21) C iX5_flatten_X3 3 rfl rfl 0 (by decide) (List.mem_of_getElem? (i := 3) rfl) rfl rfl dX5_flatten_18 rfl ?_
    obtain ⟨r2, hr2, hm⟩ := cv_bd_s hm
    obtain ⟨s3, es3, hm⟩ := cv_lt_s hm
    refine cv_go (q := 24) (ws' := (wX5 q cy s3)) C (KX4_buildAll (l := l) (σ := σ) (D := D) (cy := cy)  (cv_sh q 4)  (gX3_tree (gX5_now S))  hr2) (cv_rv (As := []) (st := [.ref (q 3)]) (n := 0) (q0 := 4) (ci := 4) C (KX4_buildAll (l := l) (σ := σ) (D := D) (cy := cy)  (cv_sh q 4)  (gX3_tree (gX5_now S))  hr2) rfl rfl gX5_flatten_X4_buildAll rfl ⟨rfl, rfl⟩ (by decide +kernel) rfl ⟨Nat.le_of_ble_eq_true rfl, Nat.le_of_ble_eq_true rfl⟩ rfl (Nat.le_of_ble_eq_true rfl) dX5_flatten_21 ⟨Nat.zero_le _, Nat.zero_le _⟩) [4, 5, 6, 7, 8, 9] [0, 1, 2, 3, 10, 11, 12, 13, 14, 15, 16, 17, 18, 19, 20, 21, 22, 23, 24, 25, 26, 27, 28, 29, 30, 31, 32, 33, 34, 35, 36] rfl (wr := cv_pk (wX5 q cy S) [0, 1, 2, 3, 10, 11, 12, 13, 14, 15, 16, 17, 18, 19, 20, 21, 22, 23, 24, 25, 26, 27, 28, 29, 30, 31, 32, 33, 34, 35, 36]) rfl (by decide) (by decide) (by decide) [0, 1, 2, 3, 31, 32, 33, 34, 35, 36, 4, 5, 6, 7, 8, 9, 10, 11, 12, 13, 14, 15, 16, 17, 18, 19, 20, 21, 22, 23, 24, 25, 26, 27, 28, 29, 30] (by decide) (by rw [es3]; rfl) rfl ?_
    obtain ⟨r4, hr4, hm⟩ := cv_bd_s hm
    obtain ⟨s5, es5, hm⟩ := cv_lt_s hm
    refine cv_go (q := 27) (ws' := (wX5 q cy s5)) C (KX3_settle (l := l) (σ := σ) (D := D) (cy := cy)  (cv_sh q 3)  (gX5_now s3) r2.1 hr4) (cv_rv (As := [.int r2.1]) (st := []) (n := 1) (q0 := 3) (ci := 3) C (KX3_settle (l := l) (σ := σ) (D := D) (cy := cy)  (cv_sh q 3)  (gX5_now s3) r2.1 hr4) rfl rfl gX5_flatten_X3_settle rfl ⟨rfl, rfl⟩ (by decide +kernel) rfl ⟨Nat.le_of_ble_eq_true rfl, Nat.le_of_ble_eq_true rfl⟩ rfl (Nat.le_of_ble_eq_true rfl) dX5_flatten_24 ⟨Nat.zero_le _, Nat.zero_le _⟩) [3, 4, 5, 6, 7, 8, 9, 10, 11, 12, 13, 14, 15, 16] [0, 1, 2, 17, 18, 19, 20, 21, 22, 23, 24, 25, 26, 27, 28, 29, 30, 31, 32, 33, 34, 35, 36] rfl (wr := cv_pk (wX5 q cy s3) [0, 1, 2, 17, 18, 19, 20, 21, 22, 23, 24, 25, 26, 27, 28, 29, 30, 31, 32, 33, 34, 35, 36]) rfl (by decide) (by decide) (by decide) [0, 1, 2, 23, 24, 25, 26, 27, 28, 29, 30, 31, 32, 33, 34, 35, 36, 3, 4, 5, 6, 7, 8, 9, 10, 11, 12, 13, 14, 15, 16, 17, 18, 19, 20, 21, 22] (by decide) (by rw [es5]; rfl) rfl ?_
    refine cv_aload_n (i := 0) (q := 28) 0 C dX5_flatten_27 rfl rfl rfl ?_
    refine cv_get (q := 31) C iX5_flatten_X5 0 rfl rfl 1 (by decide) (List.mem_of_getElem? (i := 2) rfl) rfl rfl dX5_flatten_28 rfl ?_
    refine cv_get (q := 34) C iX5_flatten_X3 3 rfl rfl 0 (by decide) (List.mem_of_getElem? (i := 3) rfl) rfl rfl dX5_flatten_31 rfl ?_
    refine cv_get (q := 37) C iX5_flatten_X4 4 rfl rfl 8 (by decide) (List.mem_of_getElem? (i := 4) rfl) rfl rfl dX5_flatten_34 rfl ?_
    obtain rfl := Option.some.inj hm
    exact cv_iret C hr hk dX5_flatten_37
  · have hm := cv_if_t h1 hm
    refine cv_bipush (v := -103) (q := 9) C dX5_flatten_7 (by decide) rfl ?_
    obtain rfl := Option.some.inj hm
    exact cv_iret C hr hk dX5_flatten_9
