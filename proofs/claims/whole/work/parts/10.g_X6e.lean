def fX6_replay (S : SX6) (a1 : Int32) (a2 : Int32) (a3 : Int32) : Option (Int32 × SX6) :=
  cv_bd (fX6_in ((a1).toInt64) (1 : Int64) (5 : Int64)) fun r1 =>
  if r1 = 0 then
    (
    some ((-102 : Int32), S)
    )
  else
    (
    cv_bd (fX6_isRatio a1 a2) fun r3 =>
    if r3 = 0 then
      (
      some ((-102 : Int32), S)
      )
    else
      (
      cv_bd (fX6_in ((a3).toInt64) (0 : Int64) (1 : Int64)) fun r5 =>
      if r5 = 0 then
        (
        some ((-102 : Int32), S)
        )
      else
        (
        cv_bd (fX6_lacks S) fun r7 =>
        if r7 = 0 then
          (
          cv_bd (fX6_replayOf S a1 a2 a3) fun r9 =>
          some (r9.1, r9.2)
          )
        else
          (
          some ((-103 : Int32), S)
          )
        )
      )
    )
abbrev rX6_replay : Room := { frames := 6, cells := 0, slots := 0, locals := 139 }
set_option maxHeartbeats 4000000 in
set_option maxRecDepth 100000 in
theorem KX6_replay {l : Launch} {σ : Nat → Nat} {D : va_G} {cy : ClassId} (q : Nat → Nat) (S : SX6) (a1 : Int32) (a2 : Int32) (a3 : Int32) {res : Int32 × SX6} (hm : fX6_replay S a1 a2 a3 = some res) : cv_M l yX6_replay wsX6_replay rX6_replay σ D [(cy, .int)] [.ref (q 0), .int a1, .int a2, .int a3] (wX6 q cy S) (some (.int res.1)) (wX6 q cy res.2) := by
  unfold fX6_replay at hm
  refine cv_M.of (own := RX6) (by decide +kernel) rfl rfl (lv := [(0, .ref (q 0)), (1, .int a1), (2, .int a2), (3, .int a3)]) rfl (Nat.le_of_ble_eq_true rfl) ?_
  intro p e s m args below meth c A C hr hk
  refine cv_iload_n (i := 1) (q := 1) 1 C dX6_replay_0 rfl rfl rfl ?_
  refine cv_i2l (q := 2) C dX6_replay_1 rfl ?_
  refine cv_lconst (v := 1) (q := 3) C dX6_replay_2 (by decide) rfl ?_
  refine cv_ldc2 (v := 5) (q := 6) C dX6_replay_3 (List.mem_of_getElem? (i := 1) rfl) rfl ?_
  obtain ⟨r1, hr1, hm⟩ := cv_bd_s hm
  refine cv_goE (q := 9) C (KX6_in (l := l) (σ := σ) (D := D) (cy := cy)     ((a1).toInt64) (1 : Int64) (5 : Int64) hr1) (cv_rs (As := [.long (a1).toInt64, .long (1 : Int64), .long (5 : Int64)]) (st := []) (n := 3) C (KX6_in (l := l) (σ := σ) (D := D) (cy := cy)     ((a1).toInt64) (1 : Int64) (5 : Int64) hr1) gX6_replay_X6_in rfl ⟨rfl, rfl⟩ (by decide +kernel) rfl ⟨Nat.le_of_ble_eq_true rfl, Nat.le_of_ble_eq_true rfl⟩ rfl (Nat.le_of_ble_eq_true rfl) dX6_replay_6 ⟨Nat.zero_le _, Nat.zero_le _⟩) rfl ?_
  refine cv_if_eq (tgt := 30) (q := 12) C dX6_replay_9 (by decide) rfl (fun h2 => ?_) (fun h2 => ?_)
  · have hm := cv_if_t h2 hm
    refine cv_bipush (v := -102) (q := 32) C dX6_replay_30 (by decide) rfl ?_
    obtain rfl := Option.some.inj hm
    exact cv_iret C hr hk dX6_replay_32
  · have hm := cv_if_f h2 hm
    refine cv_iload_n (i := 1) (q := 13) 1 C dX6_replay_12 rfl rfl rfl ?_
    refine cv_iload_n (i := 2) (q := 14) 2 C dX6_replay_13 rfl rfl rfl ?_
    obtain ⟨r3, hr3, hm⟩ := cv_bd_s hm
    refine cv_goE (q := 17) C (KX6_isRatio (l := l) (σ := σ) (D := D) (cy := cy)     a1 a2 hr3) (cv_rs (As := [.int a1, .int a2]) (st := []) (n := 2) C (KX6_isRatio (l := l) (σ := σ) (D := D) (cy := cy)     a1 a2 hr3) gX6_replay_X6_isRatio rfl ⟨rfl, rfl⟩ (by decide +kernel) rfl ⟨Nat.le_of_ble_eq_true rfl, Nat.le_of_ble_eq_true rfl⟩ rfl (Nat.le_of_ble_eq_true rfl) dX6_replay_14 ⟨Nat.zero_le _, Nat.zero_le _⟩) rfl ?_
    refine cv_if_eq (tgt := 30) (q := 20) C dX6_replay_17 (by decide) rfl (fun h4 => ?_) (fun h4 => ?_)
    · have hm := cv_if_t h4 hm
      refine cv_bipush (v := -102) (q := 32) C dX6_replay_30 (by decide) rfl ?_
      obtain rfl := Option.some.inj hm
      exact cv_iret C hr hk dX6_replay_32
    · have hm := cv_if_f h4 hm
      refine cv_iload_n (i := 3) (q := 21) 3 C dX6_replay_20 rfl rfl rfl ?_
      refine cv_i2l (q := 22) C dX6_replay_21 rfl ?_
      refine cv_lconst (v := 0) (q := 23) C dX6_replay_22 (by decide) rfl ?_
      refine cv_lconst (v := 1) (q := 24) C dX6_replay_23 (by decide) rfl ?_
      obtain ⟨r5, hr5, hm⟩ := cv_bd_s hm
      refine cv_goE (q := 27) C (KX6_in (l := l) (σ := σ) (D := D) (cy := cy)     ((a3).toInt64) (0 : Int64) (1 : Int64) hr5) (cv_rs (As := [.long (a3).toInt64, .long (0 : Int64), .long (1 : Int64)]) (st := []) (n := 3) C (KX6_in (l := l) (σ := σ) (D := D) (cy := cy)     ((a3).toInt64) (0 : Int64) (1 : Int64) hr5) gX6_replay_X6_in rfl ⟨rfl, rfl⟩ (by decide +kernel) rfl ⟨Nat.le_of_ble_eq_true rfl, Nat.le_of_ble_eq_true rfl⟩ rfl (Nat.le_of_ble_eq_true rfl) dX6_replay_24 ⟨Nat.zero_le _, Nat.zero_le _⟩) rfl ?_
      refine cv_if_ne (tgt := 33) (q := 30) C dX6_replay_27 (by decide) rfl (fun h6 => ?_) (fun h6 => ?_)
      · have hm := cv_if_f h6 hm
        refine cv_aload_n (i := 0) (q := 34) 0 C dX6_replay_33 rfl rfl rfl ?_
        obtain ⟨r7, hr7, hm⟩ := cv_bd_s hm
        refine cv_goW (q := 37) C (KX6_lacks (l := l) (σ := σ) (D := D) (cy := cy)  q  S  hr7) (cv_rv (As := []) (st := []) (n := 0) (q0 := 0) (ci := 6) C (KX6_lacks (l := l) (σ := σ) (D := D) (cy := cy)  q  S  hr7) rfl rfl gX6_replay_X6_lacks rfl ⟨rfl, rfl⟩ (by decide +kernel) rfl ⟨Nat.le_of_ble_eq_true rfl, Nat.le_of_ble_eq_true rfl⟩ rfl (Nat.le_of_ble_eq_true rfl) dX6_replay_34 ⟨Nat.zero_le _, Nat.zero_le _⟩) rfl ?_
        refine cv_if_eq (tgt := 45) (q := 40) C dX6_replay_37 (by decide) rfl (fun h8 => ?_) (fun h8 => ?_)
        · have hm := cv_if_t h8 hm
          refine cv_aload_n (i := 0) (q := 46) 0 C dX6_replay_45 rfl rfl rfl ?_
          refine cv_iload_n (i := 1) (q := 47) 1 C dX6_replay_46 rfl rfl rfl ?_
          refine cv_iload_n (i := 2) (q := 48) 2 C dX6_replay_47 rfl rfl rfl ?_
          refine cv_iload_n (i := 3) (q := 49) 3 C dX6_replay_48 rfl rfl rfl ?_
          obtain ⟨r9, hr9, hm⟩ := cv_bd_s hm
          refine cv_goW (q := 52) C (KX6_replayOf (l := l) (σ := σ) (D := D) (cy := cy)  q  S a1 a2 a3 hr9) (cv_rv (As := [.int a1, .int a2, .int a3]) (st := []) (n := 3) (q0 := 0) (ci := 6) C (KX6_replayOf (l := l) (σ := σ) (D := D) (cy := cy)  q  S a1 a2 a3 hr9) rfl rfl gX6_replay_X6_replayOf rfl ⟨rfl, rfl⟩ (by decide +kernel) rfl ⟨Nat.le_of_ble_eq_true rfl, Nat.le_of_ble_eq_true rfl⟩ rfl (Nat.le_of_ble_eq_true rfl) dX6_replay_49 ⟨Nat.zero_le _, Nat.zero_le _⟩) rfl ?_
          obtain rfl := Option.some.inj hm
          exact cv_iret C hr hk dX6_replay_52
        · have hm := cv_if_f h8 hm
          refine cv_bipush (v := -103) (q := 42) C dX6_replay_40 (by decide) rfl ?_
          refine cv_goto (tgt := 52) C dX6_replay_42 (by decide) ?_
          obtain rfl := Option.some.inj hm
          exact cv_iret C hr hk dX6_replay_52
      · have hm := cv_if_t h6 hm
        refine cv_bipush (v := -102) (q := 32) C dX6_replay_30 (by decide) rfl ?_
        obtain rfl := Option.some.inj hm
        exact cv_iret C hr hk dX6_replay_32
def fX6_aheadOf_L17 (S : SX6) (u1 : Int32) : Nat → Int32 → Option (Int32)
  | 0, _ => none
  | n + 1, y2 =>
    cv_gd (0 ≤ (((100 : Int32) + y2)).toInt ∧ (((100 : Int32) + y2)).toInt < 200) <|
    if ((gX6_there S) (((100 : Int32) + y2)).toNatClampNeg) = 0 then
      (
      cv_lt (y2 + (1 : Int32)) fun x6 =>
      fX6_aheadOf_L17 S u1 n x6
      )
    else
      (
      some y2
      )
def fX6_aheadOf_L8  : Nat → Int32 → Int32 → SX6 → Option (Int32 × SX6)
  | 0, _, _, _ => none
  | n + 1, y1, y2, S =>
    cv_gd (0 ≤ ((1 : Int32)).toInt ∧ ((1 : Int32)).toInt < 2) <|
    if ((gX6_many S) ((1 : Int32)).toNatClampNeg) ≤ 0 then
      (
      some ((-1 : Int32), S)
      )
    else
      (
      cv_bd (fX6_aheadOf_L17 S y1 256 y2) fun j7 =>
      cv_bd (fX6_leave S (1 : Int32) j7) fun r9 =>
      cv_lt (y1 + (1 : Int32)) fun x10 =>
      if (gX6_builtNow r9) ≤ 0 then
        (
        fX6_aheadOf_L8 n x10 j7 r9
        )
      else
        (
        some (x10, r9)
        )
      )
def fX6_aheadOf (S : SX6) : Option (Int32 × SX6) :=
  cv_bd (fX6_begin S) fun r1 =>
  fX6_aheadOf_L8 256 (0 : Int32) (0 : Int32) r1
abbrev rX6_aheadOf : Room := { frames := 5, cells := 0, slots := 0, locals := 115 }
theorem iX6_aheadOf_X6 : ∀ w ∈ u_ws RX6 TX6 50, w ∈ wsX6_aheadOf := fun w h => List.mem_cons_of_mem _ (List.mem_append_right _ h)
set_option maxHeartbeats 4000000 in
set_option maxRecDepth 100000 in
theorem vX6_aheadOf_L17 {p : Program} {l : Launch} {e : Env} {s : State} {m : MethodId} {args : Array Value} {below : List Frame} {meth : Method} {c : Code} {σ : Nat → Nat} {D : va_G} {A : Nat → Prop} {cy : ClassId} (q : Nat → Nat) (S : SX6) (u1 : Int32) (C : cv_C p s m args c cX6_aheadOf 3 RX6 wsX6_aheadOf σ D [(cy, .int)] A) {Q : State → Prop} {j : Int32} : ∀ (n : Nat) (y2 : Int32), fX6_aheadOf_L17 S u1 n y2 = some j → cv_V p l e rX6_aheadOf s m args below meth c 3 D A Q 0 0 (wX6 q cy S) 35 [(0, .ref (q 0)), (1, .int u1), (2, .int j)] [] → cv_V p l e rX6_aheadOf s m args below meth c 3 D A Q 0 0 (wX6 q cy S) 17 [(0, .ref (q 0)), (1, .int u1), (2, .int y2)] [] := by
  intro n
  induction n with
  | zero => intro y2 hm kx; cases hm
  | succ n ih =>
    intro y2 hm kx
    have hm : fX6_aheadOf_L17 S u1 (n + 1) y2 = some j := hm
    unfold fX6_aheadOf_L17 at hm
    refine cv_aload_n (i := 0) (q := 18) 0 C dX6_aheadOf_17 rfl rfl rfl ?_
    refine cv_get (q := 21) C iX6_aheadOf_X6 0 rfl rfl 5 (by decide) (List.mem_of_getElem? (i := 2) rfl) rfl rfl dX6_aheadOf_18 rfl ?_
    refine cv_bipush (v := 100) (q := 23) C dX6_aheadOf_21 (by decide) rfl ?_
    refine cv_iload_n (i := 2) (q := 24) 2 C dX6_aheadOf_23 rfl rfl rfl ?_
    refine cv_iadd (q := 25) C dX6_aheadOf_24 rfl ?_
    obtain ⟨g4, hm⟩ := cv_gd_s hm
    refine cv_iald (q := 26) C 5 0 rfl rfl (vp_in_iff.mpr g4) dX6_aheadOf_25 rfl ?_
    refine cv_if_ne (tgt := 35) (q := 29) C dX6_aheadOf_26 (by decide) rfl (fun h5 => ?_) (fun h5 => ?_)
    · have hm := cv_if_f h5 hm
      obtain rfl := Option.some.inj hm
      exact kx
    · have hm := cv_if_t h5 hm
      obtain ⟨x6, ex6, hm⟩ := cv_lt_s hm
      refine cv_iinc (v := x6) (lv' := [(2, .int x6), (0, .ref (q 0)), (1, .int u1)]) (q := 32) 2 C dX6_aheadOf_29 rfl (by rw [ex6]; rfl) (by decide) rfl rfl ?_
      refine cv_goto (tgt := 17) C dX6_aheadOf_32 (by decide) ?_
      refine cv_sub [1, 2, 0] rfl ?_
      exact ih x6 hm kx
set_option maxHeartbeats 4000000 in
set_option maxRecDepth 100000 in
theorem vX6_aheadOf_L8 {p : Program} {l : Launch} {e : Env} {s : State} {m : MethodId} {args : Array Value} {below : List Frame} {meth : Method} {c : Code} {σ : Nat → Nat} {D : va_G} {A : Nat → Prop} {cy : ClassId} (q : Nat → Nat) (C : cv_C p s m args c cX6_aheadOf 3 RX6 wsX6_aheadOf σ D [(cy, .int)] A) (hr : meth.sig.returnType = some .int) (hk : meth.locks = false) {res : Int32 × SX6} : ∀ (n : Nat) (y1 : Int32) (y2 : Int32) (S : SX6), fX6_aheadOf_L8 n y1 y2 S = some res → cv_V p l e rX6_aheadOf s m args below meth c 3 D A (cv_Q below (some (.int res.1)) (wX6 q cy res.2) D [(cy, .int)] A args s) 0 0 (wX6 q cy S) 8 [(0, .ref (q 0)), (1, .int y1), (2, .int y2)] [] := by
  intro n
  induction n with
  | zero => intro y1 y2 S hm; cases hm
  | succ n ih =>
    intro y1 y2 S hm
    have hm : fX6_aheadOf_L8 (n + 1) y1 y2 S = some res := hm
    unfold fX6_aheadOf_L8 at hm
    refine cv_aload_n (i := 0) (q := 9) 0 C dX6_aheadOf_8 rfl rfl rfl ?_
    refine cv_get (q := 12) C iX6_aheadOf_X6 0 rfl rfl 7 (by decide) (List.mem_of_getElem? (i := 1) rfl) rfl rfl dX6_aheadOf_9 rfl ?_
    refine cv_iconst (v := 1) (q := 13) C dX6_aheadOf_12 (by decide) rfl ?_
    obtain ⟨g2, hm⟩ := cv_gd_s hm
    refine cv_iald (q := 14) C 7 0 rfl rfl (vp_in_iff.mpr g2) dX6_aheadOf_13 rfl ?_
    refine cv_if_le (tgt := 53) (q := 17) C dX6_aheadOf_14 (by decide) rfl (fun h3 => ?_) (fun h3 => ?_)
    · have hm := cv_if_t h3 hm
      refine cv_iconst (v := -1) (q := 54) C dX6_aheadOf_53 (by decide) rfl ?_
      obtain rfl := Option.some.inj hm
      exact cv_iret C hr hk dX6_aheadOf_54
    · have hm := cv_if_f h3 hm
      obtain ⟨j7, hj7, hm⟩ := cv_bd_s hm
      refine cv_cut (ws' := (wX6 q cy S)) (pc' := 35) (lv' := [(0, .ref (q 0)), (1, .int y1), (2, .int j7)]) (st' := []) ?_ (fun K8 => ?_)
      · refine cv_aload_n (i := 0) (q := 36) 0 C dX6_aheadOf_35 rfl rfl rfl ?_
        refine cv_iconst (v := 1) (q := 37) C dX6_aheadOf_36 (by decide) rfl ?_
        refine cv_iload_n (i := 2) (q := 38) 2 C dX6_aheadOf_37 rfl rfl rfl ?_
        obtain ⟨r9, hr9, hm⟩ := cv_bd_s hm
        refine cv_goW (q := 41) C (KX6_leave (l := l) (σ := σ) (D := D) (cy := cy)  q  S (1 : Int32) j7 hr9) (cv_rv (As := [.int (1 : Int32), .int j7]) (st := []) (n := 2) (q0 := 0) (ci := 6) C (KX6_leave (l := l) (σ := σ) (D := D) (cy := cy)  q  S (1 : Int32) j7 hr9) rfl rfl gX6_aheadOf_X6_leave rfl ⟨rfl, rfl⟩ (by decide +kernel) rfl ⟨Nat.le_of_ble_eq_true rfl, Nat.le_of_ble_eq_true rfl⟩ rfl (Nat.le_of_ble_eq_true rfl) dX6_aheadOf_38 ⟨Nat.zero_le _, Nat.zero_le _⟩) rfl ?_
        obtain ⟨x10, ex10, hm⟩ := cv_lt_s hm
        refine cv_iinc (v := x10) (lv' := [(1, .int x10), (0, .ref (q 0)), (2, .int j7)]) (q := 44) 1 C dX6_aheadOf_41 rfl (by rw [ex10]; rfl) (by decide) rfl rfl ?_
        refine cv_aload_n (i := 0) (q := 45) 1 C dX6_aheadOf_44 rfl rfl rfl ?_
        refine cv_get (q := 48) C iX6_aheadOf_X6 0 rfl rfl 9 (by decide) (List.mem_of_getElem? (i := 3) rfl) rfl rfl dX6_aheadOf_45 rfl ?_
        refine cv_if_le (tgt := 8) (q := 51) C dX6_aheadOf_48 (by decide) rfl (fun h11 => ?_) (fun h11 => ?_)
        · have hm := cv_if_t h11 hm
          refine cv_sub [1, 0, 2] rfl ?_
          exact ih x10 j7 r9 hm
        · have hm := cv_if_f h11 hm
          refine cv_iload_n (i := 1) (q := 52) 0 C dX6_aheadOf_51 rfl rfl rfl ?_
          obtain rfl := Option.some.inj hm
          exact cv_iret C hr hk dX6_aheadOf_52
      · exact vX6_aheadOf_L17 q S y1 C 256 y2 hj7 K8
set_option maxHeartbeats 4000000 in
set_option maxRecDepth 100000 in
theorem KX6_aheadOf {l : Launch} {σ : Nat → Nat} {D : va_G} {cy : ClassId} (q : Nat → Nat) (S : SX6) {res : Int32 × SX6} (hm : fX6_aheadOf S = some res) : cv_M l yX6_aheadOf wsX6_aheadOf rX6_aheadOf σ D [(cy, .int)] [.ref (q 0)] (wX6 q cy S) (some (.int res.1)) (wX6 q cy res.2) := by
  unfold fX6_aheadOf at hm
  refine cv_M.of (own := RX6) (by decide +kernel) rfl rfl (lv := [(0, .ref (q 0))]) rfl (Nat.le_of_ble_eq_true rfl) ?_
  intro p e s m args below meth c A C hr hk
  refine cv_aload_n (i := 0) (q := 1) 0 C dX6_aheadOf_0 rfl rfl rfl ?_
  obtain ⟨r1, hr1, hm⟩ := cv_bd_s hm
  refine cv_goW (q := 4) C (KX6_begin (l := l) (σ := σ) (D := D) (cy := cy)  q  S  hr1) (cv_rv (As := []) (st := []) (n := 0) (q0 := 0) (ci := 6) C (KX6_begin (l := l) (σ := σ) (D := D) (cy := cy)  q  S  hr1) rfl rfl gX6_aheadOf_X6_begin rfl ⟨rfl, rfl⟩ (by decide +kernel) rfl ⟨Nat.le_of_ble_eq_true rfl, Nat.le_of_ble_eq_true rfl⟩ rfl (Nat.le_of_ble_eq_true rfl) dX6_aheadOf_1 ⟨Nat.zero_le _, Nat.zero_le _⟩) rfl ?_
  refine cv_iconst (v := 0) (q := 5) C dX6_aheadOf_4 (by decide) rfl ?_
  refine cv_istore_n (i := 1) (lv' := [(1, .int (0 : Int32)), (0, .ref (q 0))]) (q := 6) C dX6_aheadOf_5 rfl (by decide) rfl rfl ?_
  refine cv_iconst (v := 0) (q := 7) C dX6_aheadOf_6 (by decide) rfl ?_
  refine cv_istore_n (i := 2) (lv' := [(2, .int (0 : Int32)), (1, .int (0 : Int32)), (0, .ref (q 0))]) (q := 8) C dX6_aheadOf_7 rfl (by decide) rfl rfl ?_
  refine cv_sub [2, 1, 0] rfl ?_
  exact vX6_aheadOf_L8 q  C hr hk 256 (0 : Int32) (0 : Int32) r1 hm
def fX6_ahead (S : SX6) : Option (Int32 × SX6) :=
  cv_bd (fX6_lacks S) fun r1 =>
  if r1 = 0 then
    (
    cv_bd (fX6_aheadOf S) fun r3 =>
    some (r3.1, r3.2)
    )
  else
    (
    some ((-103 : Int32), S)
    )
abbrev rX6_ahead : Room := { frames := 6, cells := 0, slots := 0, locals := 137 }
set_option maxHeartbeats 4000000 in
set_option maxRecDepth 100000 in
theorem KX6_ahead {l : Launch} {σ : Nat → Nat} {D : va_G} {cy : ClassId} (q : Nat → Nat) (S : SX6) {res : Int32 × SX6} (hm : fX6_ahead S = some res) : cv_M l yX6_ahead wsX6_ahead rX6_ahead σ D [(cy, .int)] [.ref (q 0)] (wX6 q cy S) (some (.int res.1)) (wX6 q cy res.2) := by
  unfold fX6_ahead at hm
  refine cv_M.of (own := RX6) (by decide +kernel) rfl rfl (lv := [(0, .ref (q 0))]) rfl (Nat.le_of_ble_eq_true rfl) ?_
  intro p e s m args below meth c A C hr hk
  refine cv_aload_n (i := 0) (q := 1) 0 C dX6_ahead_0 rfl rfl rfl ?_
  obtain ⟨r1, hr1, hm⟩ := cv_bd_s hm
  refine cv_goW (q := 4) C (KX6_lacks (l := l) (σ := σ) (D := D) (cy := cy)  q  S  hr1) (cv_rv (As := []) (st := []) (n := 0) (q0 := 0) (ci := 6) C (KX6_lacks (l := l) (σ := σ) (D := D) (cy := cy)  q  S  hr1) rfl rfl gX6_ahead_X6_lacks rfl ⟨rfl, rfl⟩ (by decide +kernel) rfl ⟨Nat.le_of_ble_eq_true rfl, Nat.le_of_ble_eq_true rfl⟩ rfl (Nat.le_of_ble_eq_true rfl) dX6_ahead_1 ⟨Nat.zero_le _, Nat.zero_le _⟩) rfl ?_
  refine cv_if_eq (tgt := 12) (q := 7) C dX6_ahead_4 (by decide) rfl (fun h2 => ?_) (fun h2 => ?_)
  · have hm := cv_if_t h2 hm
    refine cv_aload_n (i := 0) (q := 13) 0 C dX6_ahead_12 rfl rfl rfl ?_
    obtain ⟨r3, hr3, hm⟩ := cv_bd_s hm
    refine cv_goW (q := 16) C (KX6_aheadOf (l := l) (σ := σ) (D := D) (cy := cy)  q  S  hr3) (cv_rv (As := []) (st := []) (n := 0) (q0 := 0) (ci := 6) C (KX6_aheadOf (l := l) (σ := σ) (D := D) (cy := cy)  q  S  hr3) rfl rfl gX6_ahead_X6_aheadOf rfl ⟨rfl, rfl⟩ (by decide +kernel) rfl ⟨Nat.le_of_ble_eq_true rfl, Nat.le_of_ble_eq_true rfl⟩ rfl (Nat.le_of_ble_eq_true rfl) dX6_ahead_13 ⟨Nat.zero_le _, Nat.zero_le _⟩) rfl ?_
    obtain rfl := Option.some.inj hm
    exact cv_iret C hr hk dX6_ahead_16
  · have hm := cv_if_f h2 hm
    refine cv_bipush (v := -103) (q := 9) C dX6_ahead_7 (by decide) rfl ?_
    refine cv_goto (tgt := 16) C dX6_ahead_9 (by decide) ?_
    obtain rfl := Option.some.inj hm
    exact cv_iret C hr hk dX6_ahead_16
def fX6_see (S : SX6) (a1 : Int32) (a2 : Int32) (a3 : Int32) : Option (Int32 × SX6) :=
  cv_bd (fX6_in ((a1).toInt64) (0 : Int64) (99 : Int64)) fun r1 =>
  if r1 = 0 then
    (
    some ((-102 : Int32), S)
    )
  else
    (
    cv_bd (fX6_in ((a2).toInt64) (0 : Int64) (3 : Int64)) fun r3 =>
    if r3 = 0 then
      (
      some ((-102 : Int32), S)
      )
    else
      (
      cv_bd (fX6_lacks S) fun r5 =>
      if r5 = 0 then
        (
        if (gX6_seenMany S) = (6 : Int32) then
          (
          some ((-104 : Int32), S)
          )
        else
          (
          cv_gd (0 ≤ (((3 : Int32) * (gX6_seenMany S))).toInt ∧ (((3 : Int32) * (gX6_seenMany S))).toInt < 18) <|
          cv_lt (sX6_sights S (upd (gX6_sights S) (((3 : Int32) * (gX6_seenMany S))).toNatClampNeg a1)) fun s9 =>
          cv_gd (0 ≤ ((((3 : Int32) * (gX6_seenMany s9)) + (1 : Int32))).toInt ∧ ((((3 : Int32) * (gX6_seenMany s9)) + (1 : Int32))).toInt < 18) <|
          cv_lt (sX6_sights s9 (upd (gX6_sights s9) ((((3 : Int32) * (gX6_seenMany s9)) + (1 : Int32))).toNatClampNeg a2)) fun s11 =>
          cv_bd (
            if a3 = 0 then
              (
              some (0 : Int32)
              )
            else
              (
              some (1 : Int32)
              )
          ) fun j12 =>
          cv_gd (0 ≤ ((((3 : Int32) * (gX6_seenMany s11)) + (2 : Int32))).toInt ∧ ((((3 : Int32) * (gX6_seenMany s11)) + (2 : Int32))).toInt < 18) <|
          cv_lt (sX6_sights s11 (upd (gX6_sights s11) ((((3 : Int32) * (gX6_seenMany s11)) + (2 : Int32))).toNatClampNeg j12)) fun s15 =>
          cv_lt (sX6_seenMany s15 ((gX6_seenMany s15) + (1 : Int32))) fun s16 =>
          some ((gX6_seenMany s16), s16)
          )
        )
      else
        (
        some ((-103 : Int32), S)
        )
      )
    )
abbrev rX6_see : Room := { frames := 1, cells := 0, slots := 0, locals := 25 }
theorem iX6_see_X6 : ∀ w ∈ u_ws RX6 TX6 50, w ∈ wsX6_see := fun w h => List.mem_cons_of_mem _ (List.mem_append_right _ h)
set_option maxHeartbeats 4000000 in
set_option maxRecDepth 100000 in
theorem KX6_see {l : Launch} {σ : Nat → Nat} {D : va_G} {cy : ClassId} (q : Nat → Nat) (S : SX6) (a1 : Int32) (a2 : Int32) (a3 : Int32) {res : Int32 × SX6} (hm : fX6_see S a1 a2 a3 = some res) : cv_M l yX6_see wsX6_see rX6_see σ D [(cy, .int)] [.ref (q 0), .int a1, .int a2, .int a3] (wX6 q cy S) (some (.int res.1)) (wX6 q cy res.2) := by
  unfold fX6_see at hm
  refine cv_M.of (own := RX6) (by decide +kernel) rfl rfl (lv := [(0, .ref (q 0)), (1, .int a1), (2, .int a2), (3, .int a3)]) rfl (Nat.le_of_ble_eq_true rfl) ?_
  intro p e s m args below meth c A C hr hk
  refine cv_iload_n (i := 1) (q := 1) 1 C dX6_see_0 rfl rfl rfl ?_
  refine cv_i2l (q := 2) C dX6_see_1 rfl ?_
  refine cv_lconst (v := 0) (q := 3) C dX6_see_2 (by decide) rfl ?_
  refine cv_ldc2 (v := 99) (q := 6) C dX6_see_3 (List.mem_of_getElem? (i := 1) rfl) rfl ?_
  obtain ⟨r1, hr1, hm⟩ := cv_bd_s hm
  refine cv_goE (q := 9) C (KX6_in (l := l) (σ := σ) (D := D) (cy := cy)     ((a1).toInt64) (0 : Int64) (99 : Int64) hr1) (cv_rs (As := [.long (a1).toInt64, .long (0 : Int64), .long (99 : Int64)]) (st := []) (n := 3) C (KX6_in (l := l) (σ := σ) (D := D) (cy := cy)     ((a1).toInt64) (0 : Int64) (99 : Int64) hr1) gX6_see_X6_in rfl ⟨rfl, rfl⟩ (by decide +kernel) rfl ⟨Nat.le_of_ble_eq_true rfl, Nat.le_of_ble_eq_true rfl⟩ rfl (Nat.le_of_ble_eq_true rfl) dX6_see_6 ⟨Nat.zero_le _, Nat.zero_le _⟩) rfl ?_
  refine cv_if_eq (tgt := 24) (q := 12) C dX6_see_9 (by decide) rfl (fun h2 => ?_) (fun h2 => ?_)
  · have hm := cv_if_t h2 hm
    refine cv_bipush (v := -102) (q := 26) C dX6_see_24 (by decide) rfl ?_
    obtain rfl := Option.some.inj hm
    exact cv_iret C hr hk dX6_see_26
  · have hm := cv_if_f h2 hm
    refine cv_iload_n (i := 2) (q := 13) 2 C dX6_see_12 rfl rfl rfl ?_
    refine cv_i2l (q := 14) C dX6_see_13 rfl ?_
    refine cv_lconst (v := 0) (q := 15) C dX6_see_14 (by decide) rfl ?_
    refine cv_ldc2 (v := 3) (q := 18) C dX6_see_15 (List.mem_of_getElem? (i := 2) rfl) rfl ?_
    obtain ⟨r3, hr3, hm⟩ := cv_bd_s hm
    refine cv_goE (q := 21) C (KX6_in (l := l) (σ := σ) (D := D) (cy := cy)     ((a2).toInt64) (0 : Int64) (3 : Int64) hr3) (cv_rs (As := [.long (a2).toInt64, .long (0 : Int64), .long (3 : Int64)]) (st := []) (n := 3) C (KX6_in (l := l) (σ := σ) (D := D) (cy := cy)     ((a2).toInt64) (0 : Int64) (3 : Int64) hr3) gX6_see_X6_in rfl ⟨rfl, rfl⟩ (by decide +kernel) rfl ⟨Nat.le_of_ble_eq_true rfl, Nat.le_of_ble_eq_true rfl⟩ rfl (Nat.le_of_ble_eq_true rfl) dX6_see_18 ⟨Nat.zero_le _, Nat.zero_le _⟩) rfl ?_
    refine cv_if_ne (tgt := 27) (q := 24) C dX6_see_21 (by decide) rfl (fun h4 => ?_) (fun h4 => ?_)
    · have hm := cv_if_f h4 hm
      refine cv_aload_n (i := 0) (q := 28) 0 C dX6_see_27 rfl rfl rfl ?_
      obtain ⟨r5, hr5, hm⟩ := cv_bd_s hm
      refine cv_goW (q := 31) C (KX6_lacks (l := l) (σ := σ) (D := D) (cy := cy)  q  S  hr5) (cv_rv (As := []) (st := []) (n := 0) (q0 := 0) (ci := 6) C (KX6_lacks (l := l) (σ := σ) (D := D) (cy := cy)  q  S  hr5) rfl rfl gX6_see_X6_lacks rfl ⟨rfl, rfl⟩ (by decide +kernel) rfl ⟨Nat.le_of_ble_eq_true rfl, Nat.le_of_ble_eq_true rfl⟩ rfl (Nat.le_of_ble_eq_true rfl) dX6_see_28 ⟨Nat.zero_le _, Nat.zero_le _⟩) rfl ?_
      refine cv_if_eq (tgt := 37) (q := 34) C dX6_see_31 (by decide) rfl (fun h6 => ?_) (fun h6 => ?_)
      · have hm := cv_if_t h6 hm
        refine cv_aload_n (i := 0) (q := 38) 0 C dX6_see_37 rfl rfl rfl ?_
        refine cv_get (q := 41) C iX6_see_X6 0 rfl rfl 28 (by decide) (List.mem_of_getElem? (i := 3) rfl) rfl rfl dX6_see_38 rfl ?_
        refine cv_bipush (v := 6) (q := 43) C dX6_see_41 (by decide) rfl ?_
        refine cv_icmp_ne (tgt := 49) (q := 46) C dX6_see_43 (by decide) rfl (fun h7 => ?_) (fun h7 => ?_)
        · have hm := cv_if_f h7 hm
          refine cv_aload_n (i := 0) (q := 50) 0 C dX6_see_49 rfl rfl rfl ?_
          refine cv_get (q := 53) C iX6_see_X6 0 rfl rfl 29 (by decide) (List.mem_of_getElem? (i := 4) rfl) rfl rfl dX6_see_50 rfl ?_
          refine cv_iconst (v := 3) (q := 54) C dX6_see_53 (by decide) rfl ?_
          refine cv_aload_n (i := 0) (q := 55) 0 C dX6_see_54 rfl rfl rfl ?_
          refine cv_get (q := 58) C iX6_see_X6 0 rfl rfl 28 (by decide) (List.mem_of_getElem? (i := 3) rfl) rfl rfl dX6_see_55 rfl ?_
          refine cv_imul (q := 59) C dX6_see_58 rfl ?_
          refine cv_iload_n (i := 1) (q := 60) 1 C dX6_see_59 rfl rfl rfl ?_
          obtain ⟨g8, hm⟩ := cv_gd_s hm
          obtain ⟨s9, es9, hm⟩ := cv_lt_s hm
          refine cv_iast (q := 61) (ws' := (wX6 q cy s9)) C 18 0 rfl rfl (vp_in_iff.mpr g8) dX6_see_60 rfl (by rw [es9]; rfl) ?_
          refine cv_aload_n (i := 0) (q := 62) 0 C dX6_see_61 rfl rfl rfl ?_
          refine cv_get (q := 65) C iX6_see_X6 0 rfl rfl 29 (by decide) (List.mem_of_getElem? (i := 4) rfl) rfl rfl dX6_see_62 rfl ?_
          refine cv_iconst (v := 3) (q := 66) C dX6_see_65 (by decide) rfl ?_
          refine cv_aload_n (i := 0) (q := 67) 0 C dX6_see_66 rfl rfl rfl ?_
          refine cv_get (q := 70) C iX6_see_X6 0 rfl rfl 28 (by decide) (List.mem_of_getElem? (i := 3) rfl) rfl rfl dX6_see_67 rfl ?_
          refine cv_imul (q := 71) C dX6_see_70 rfl ?_
          refine cv_iconst (v := 1) (q := 72) C dX6_see_71 (by decide) rfl ?_
          refine cv_iadd (q := 73) C dX6_see_72 rfl ?_
          refine cv_iload_n (i := 2) (q := 74) 2 C dX6_see_73 rfl rfl rfl ?_
          obtain ⟨g10, hm⟩ := cv_gd_s hm
          obtain ⟨s11, es11, hm⟩ := cv_lt_s hm
          refine cv_iast (q := 75) (ws' := (wX6 q cy s11)) C 18 0 rfl rfl (vp_in_iff.mpr g10) dX6_see_74 rfl (by rw [es11]; rfl) ?_
          refine cv_aload_n (i := 0) (q := 76) 0 C dX6_see_75 rfl rfl rfl ?_
          refine cv_get (q := 79) C iX6_see_X6 0 rfl rfl 29 (by decide) (List.mem_of_getElem? (i := 4) rfl) rfl rfl dX6_see_76 rfl ?_
          refine cv_iconst (v := 3) (q := 80) C dX6_see_79 (by decide) rfl ?_
          refine cv_aload_n (i := 0) (q := 81) 0 C dX6_see_80 rfl rfl rfl ?_
          refine cv_get (q := 84) C iX6_see_X6 0 rfl rfl 28 (by decide) (List.mem_of_getElem? (i := 3) rfl) rfl rfl dX6_see_81 rfl ?_
          refine cv_imul (q := 85) C dX6_see_84 rfl ?_
          refine cv_iconst (v := 2) (q := 86) C dX6_see_85 (by decide) rfl ?_
          refine cv_iadd (q := 87) C dX6_see_86 rfl ?_
          refine cv_iload_n (i := 3) (q := 88) 3 C dX6_see_87 rfl rfl rfl ?_
          obtain ⟨j12, hj12, hm⟩ := cv_bd_s hm
          refine cv_cut (ws' := (wX6 q cy s11)) (pc' := 96) (lv' := [(0, .ref (q 0))]) (st' := [.int j12, .int (((3 : Int32) * (gX6_seenMany s11)) + (2 : Int32)), .ref (q 18)]) ?_ (fun K13 => ?_)
          · obtain ⟨g14, hm⟩ := cv_gd_s hm
            obtain ⟨s15, es15, hm⟩ := cv_lt_s hm
            refine cv_iast (q := 97) (ws' := (wX6 q cy s15)) C 18 0 rfl rfl (vp_in_iff.mpr g14) dX6_see_96 rfl (by rw [es15]; rfl) ?_
            refine cv_aload_n (i := 0) (q := 98) 0 C dX6_see_97 rfl rfl rfl ?_
            refine cv_dup (q := 99) C dX6_see_98 rfl rfl ?_
            refine cv_get (q := 102) C iX6_see_X6 0 rfl rfl 28 (by decide) (List.mem_of_getElem? (i := 3) rfl) rfl rfl dX6_see_99 rfl ?_
            refine cv_iconst (v := 1) (q := 103) C dX6_see_102 (by decide) rfl ?_
            refine cv_iadd (q := 104) C dX6_see_103 rfl ?_
            obtain ⟨s16, es16, hm⟩ := cv_lt_s hm
            refine cv_put (q := 107) (ws' := (wX6 q cy s16)) C iX6_see_X6 tyX6 tyX6_ok nmX6 0 rfl rfl 28 (by decide) (List.mem_of_getElem? (i := 3) rfl) rfl rfl rfl rfl rfl (Nat.le_of_ble_eq_true rfl) dX6_see_104 rfl (by rw [es16]; rfl) ?_
            refine cv_aload_n (i := 0) (q := 108) 0 C dX6_see_107 rfl rfl rfl ?_
            refine cv_get (q := 111) C iX6_see_X6 0 rfl rfl 28 (by decide) (List.mem_of_getElem? (i := 3) rfl) rfl rfl dX6_see_108 rfl ?_
            obtain rfl := Option.some.inj hm
            exact cv_iret C hr hk dX6_see_111
          · have hm := hj12
            refine cv_if_eq (tgt := 95) (q := 91) C dX6_see_88 (by decide) rfl (fun h17 => ?_) (fun h17 => ?_)
            · have hm := cv_if_t h17 hm
              refine cv_iconst (v := 0) (q := 96) C dX6_see_95 (by decide) rfl ?_
              obtain rfl := Option.some.inj hm
              refine cv_sub [0] rfl ?_
              exact K13
            · have hm := cv_if_f h17 hm
              refine cv_iconst (v := 1) (q := 92) C dX6_see_91 (by decide) rfl ?_
              refine cv_goto (tgt := 96) C dX6_see_92 (by decide) ?_
              obtain rfl := Option.some.inj hm
              refine cv_sub [0] rfl ?_
              exact K13
        · have hm := cv_if_t h7 hm
          refine cv_bipush (v := -104) (q := 48) C dX6_see_46 (by decide) rfl ?_
          obtain rfl := Option.some.inj hm
          exact cv_iret C hr hk dX6_see_48
      · have hm := cv_if_f h6 hm
        refine cv_bipush (v := -103) (q := 36) C dX6_see_34 (by decide) rfl ?_
        obtain rfl := Option.some.inj hm
        exact cv_iret C hr hk dX6_see_36
    · have hm := cv_if_t h4 hm
      refine cv_bipush (v := -102) (q := 26) C dX6_see_24 (by decide) rfl ?_
      obtain rfl := Option.some.inj hm
      exact cv_iret C hr hk dX6_see_26
def fX6_forget (S : SX6) : Option (Int32 × SX6) :=
  cv_lt ((gX6_seenMany S)) fun x1 =>
  cv_lt (sX6_seenMany S (0 : Int32)) fun s2 =>
  some (x1, s2)
abbrev rX6_forget : Room := { frames := 0, cells := 0, slots := 0, locals := 0 }
theorem iX6_forget_X6 : ∀ w ∈ u_ws RX6 TX6 50, w ∈ wsX6_forget := fun w h => List.mem_cons_of_mem _ (List.mem_append_right _ h)
set_option maxHeartbeats 4000000 in
set_option maxRecDepth 100000 in
theorem KX6_forget {l : Launch} {σ : Nat → Nat} {D : va_G} {cy : ClassId} (q : Nat → Nat) (S : SX6) {res : Int32 × SX6} (hm : fX6_forget S = some res) : cv_M l yX6_forget wsX6_forget rX6_forget σ D [(cy, .int)] [.ref (q 0)] (wX6 q cy S) (some (.int res.1)) (wX6 q cy res.2) := by
  unfold fX6_forget at hm
  refine cv_M.of (own := RX6) (by decide +kernel) rfl rfl (lv := [(0, .ref (q 0))]) rfl (Nat.le_of_ble_eq_true rfl) ?_
  intro p e s m args below meth c A C hr hk
  refine cv_aload_n (i := 0) (q := 1) 0 C dX6_forget_0 rfl rfl rfl ?_
  refine cv_get (q := 4) C iX6_forget_X6 0 rfl rfl 28 (by decide) (List.mem_of_getElem? (i := 1) rfl) rfl rfl dX6_forget_1 rfl ?_
  obtain ⟨x1, ex1, hm⟩ := cv_lt_s hm
  refine cv_topi ex1 ?_
  refine cv_istore_n (i := 1) (lv' := [(1, .int x1), (0, .ref (q 0))]) (q := 5) C dX6_forget_4 rfl (by decide) rfl rfl ?_
  refine cv_aload_n (i := 0) (q := 6) 1 C dX6_forget_5 rfl rfl rfl ?_
  refine cv_iconst (v := 0) (q := 7) C dX6_forget_6 (by decide) rfl ?_
  obtain ⟨s2, es2, hm⟩ := cv_lt_s hm
  refine cv_put (q := 10) (ws' := (wX6 q cy s2)) C iX6_forget_X6 tyX6 tyX6_ok nmX6 0 rfl rfl 28 (by decide) (List.mem_of_getElem? (i := 1) rfl) rfl rfl rfl rfl rfl (Nat.le_of_ble_eq_true rfl) dX6_forget_7 rfl (by rw [es2]; rfl) ?_
  refine cv_iload_n (i := 1) (q := 11) 0 C dX6_forget_10 rfl rfl rfl ?_
  obtain rfl := Option.some.inj hm
  exact cv_iret C hr hk dX6_forget_11
def fX6_sortsBy (a0 : Int32) : Option (Int32) :=
  if a0 = 0 then
    (
    some (13 : Int32)
    )
  else
    (
    if a0 = 1 then
      (
      some (15 : Int32)
      )
    else
      (
      if a0 = 2 then
        (
        some (4 : Int32)
        )
      else
        (
        some (23 : Int32)
        )
      )
    )
abbrev rX6_sortsBy : Room := { frames := 0, cells := 0, slots := 0, locals := 0 }
set_option maxHeartbeats 4000000 in
set_option maxRecDepth 100000 in
theorem KX6_sortsBy {l : Launch} {σ : Nat → Nat} {D : va_G} {cy : ClassId} (a0 : Int32) {res : Int32} (hm : fX6_sortsBy a0 = some res) : cv_M l yX6_sortsBy wsX6_sortsBy rX6_sortsBy σ D [(cy, .int)] [.int a0] [] (some (.int res)) [] := by
  unfold fX6_sortsBy at hm
  refine cv_M.of (own := RX6) (by decide +kernel) rfl rfl (lv := [(0, .int a0)]) rfl (Nat.le_of_ble_eq_true rfl) ?_
  intro p e s m args below meth c A C hr hk
  refine cv_iload_n (i := 0) (q := 1) 0 C dX6_sortsBy_0 rfl rfl rfl ?_
  by_cases h1 : a0 = 0
  · have hm := cv_if_t h1 hm
    refine cv_tin (tgt := 28) 0 C dX6_sortsBy_1 h1 (by decide) (by decide) rfl (by decide) ?_
    refine cv_bipush (v := 13) (q := 30) C dX6_sortsBy_28 (by decide) rfl ?_
    obtain rfl := Option.some.inj hm
    exact cv_iret C hr hk dX6_sortsBy_30
  · have hm := cv_if_f h1 hm
    by_cases h2 : a0 = 1
    · have hm := cv_if_t h2 hm
      refine cv_tin (tgt := 31) 1 C dX6_sortsBy_1 h2 (by decide) (by decide) rfl (by decide) ?_
      refine cv_bipush (v := 15) (q := 33) C dX6_sortsBy_31 (by decide) rfl ?_
      obtain rfl := Option.some.inj hm
      exact cv_iret C hr hk dX6_sortsBy_33
    · have hm := cv_if_f h2 hm
      by_cases h3 : a0 = 2
      · have hm := cv_if_t h3 hm
        refine cv_tin (tgt := 34) 2 C dX6_sortsBy_1 h3 (by decide) (by decide) rfl (by decide) ?_
        refine cv_iconst (v := 4) (q := 35) C dX6_sortsBy_34 (by decide) rfl ?_
        obtain rfl := Option.some.inj hm
        exact cv_iret C hr hk dX6_sortsBy_35
      · have hm := cv_if_f h3 hm
        refine cv_tout (tgt := 36) C dX6_sortsBy_1 (by have h1t := lv_neT (a := 0) h1 (by decide); have h2t := lv_neT (a := 1) h2 (by decide); have h3t := lv_neT (a := 2) h3 (by decide); omega) (by decide) ?_
        refine cv_bipush (v := 23) (q := 38) C dX6_sortsBy_36 (by decide) rfl ?_
        obtain rfl := Option.some.inj hm
        exact cv_iret C hr hk dX6_sortsBy_38
def fX6_sortsOf_L5 (S : SX6) (u1 : Int32) : Nat → Int32 → Int32 → Option (Int32)
  | 0, _, _ => none
  | n + 1, y2, y3 =>
    if ((3 : Int32) * (gX6_seenMany S)) ≤ y3 then
      (
      some y2
      )
    else
      (
      cv_gd (0 ≤ (y3).toInt ∧ (y3).toInt < 18) <|
      cv_bd (
        if ((gX6_sights S) (y3).toNatClampNeg) = u1 then
          (
          cv_gd (0 ≤ ((y3 + (1 : Int32))).toInt ∧ ((y3 + (1 : Int32))).toInt < 18) <|
          cv_bd (fX6_sortsBy ((gX6_sights S) ((y3 + (1 : Int32))).toNatClampNeg)) fun r8 =>
          cv_gd (0 ≤ ((y3 + (2 : Int32))).toInt ∧ ((y3 + (2 : Int32))).toInt < 18) <|
          cv_bd (
            if ((gX6_sights S) ((y3 + (2 : Int32))).toNatClampNeg) = (1 : Int32) then
              (
              some r8
              )
            else
              (
              some ((31 : Int32) - r8)
              )
          ) fun j10 =>
          cv_lt ((y2 &&& j10)) fun x12 =>
          some x12
          )
        else
          (
          some y2
          )
      ) fun j3 =>
      cv_lt (y3 + (3 : Int32)) fun x5 =>
      fX6_sortsOf_L5 S u1 n j3 x5
      )
def fX6_sortsOf (S : SX6) (a1 : Int32) : Option (Int32) :=
  cv_bd (fX6_sortsOf_L5 S a1 256 (31 : Int32) (0 : Int32)) fun j14 =>
  some j14
abbrev rX6_sortsOf : Room := { frames := 1, cells := 0, slots := 0, locals := 20 }
theorem iX6_sortsOf_X6 : ∀ w ∈ u_ws RX6 TX6 50, w ∈ wsX6_sortsOf := fun w h => List.mem_cons_of_mem _ (List.mem_append_right _ h)
set_option maxHeartbeats 4000000 in
set_option maxRecDepth 100000 in
theorem vX6_sortsOf_L5 {p : Program} {l : Launch} {e : Env} {s : State} {m : MethodId} {args : Array Value} {below : List Frame} {meth : Method} {c : Code} {σ : Nat → Nat} {D : va_G} {A : Nat → Prop} {cy : ClassId} (q : Nat → Nat) (S : SX6) (u1 : Int32) (C : cv_C p s m args c cX6_sortsOf 5 RX6 wsX6_sortsOf σ D [(cy, .int)] A) {Q : State → Prop} {j : Int32} : ∀ (n : Nat) (y2 : Int32) (y3 : Int32), fX6_sortsOf_L5 S u1 n y2 y3 = some j → cv_V p l e rX6_sortsOf s m args below meth c 5 D A Q 0 0 (wX6 q cy S) 69 [(2, .int j)] [] → cv_V p l e rX6_sortsOf s m args below meth c 5 D A Q 0 0 (wX6 q cy S) 5 [(0, .ref (q 0)), (1, .int u1), (2, .int y2), (3, .int y3)] [] := by
  intro n
  induction n with
  | zero => intro y2 y3 hm kx; cases hm
  | succ n ih =>
    intro y2 y3 hm kx
    have hm : fX6_sortsOf_L5 S u1 (n + 1) y2 y3 = some j := hm
    unfold fX6_sortsOf_L5 at hm
    refine cv_iload_n (i := 3) (q := 6) 3 C dX6_sortsOf_5 rfl rfl rfl ?_
    refine cv_iconst (v := 3) (q := 7) C dX6_sortsOf_6 (by decide) rfl ?_
    refine cv_aload_n (i := 0) (q := 8) 0 C dX6_sortsOf_7 rfl rfl rfl ?_
    refine cv_get (q := 11) C iX6_sortsOf_X6 0 rfl rfl 28 (by decide) (List.mem_of_getElem? (i := 1) rfl) rfl rfl dX6_sortsOf_8 rfl ?_
    refine cv_imul (q := 12) C dX6_sortsOf_11 rfl ?_
    refine cv_icmp_ge (tgt := 69) (q := 15) C dX6_sortsOf_12 (by decide) rfl (fun h1 => ?_) (fun h1 => ?_)
    · have hm := cv_if_t h1 hm
      obtain rfl := Option.some.inj hm
      refine cv_sub [2] rfl ?_
      exact kx
    · have hm := cv_if_f h1 hm
      refine cv_aload_n (i := 0) (q := 16) 0 C dX6_sortsOf_15 rfl rfl rfl ?_
      refine cv_get (q := 19) C iX6_sortsOf_X6 0 rfl rfl 29 (by decide) (List.mem_of_getElem? (i := 2) rfl) rfl rfl dX6_sortsOf_16 rfl ?_
      refine cv_iload_n (i := 3) (q := 20) 3 C dX6_sortsOf_19 rfl rfl rfl ?_
      obtain ⟨g2, hm⟩ := cv_gd_s hm
      refine cv_iald (q := 21) C 18 0 rfl rfl (vp_in_iff.mpr g2) dX6_sortsOf_20 rfl ?_
      refine cv_iload_n (i := 1) (q := 22) 1 C dX6_sortsOf_21 rfl rfl rfl ?_
      obtain ⟨j3, hj3, hm⟩ := cv_bd_s hm
      refine cv_cut (ws' := (wX6 q cy S)) (pc' := 63) (lv' := [(0, .ref (q 0)), (1, .int u1), (2, .int j3), (3, .int y3)]) (st' := []) ?_ (fun K4 => ?_)
      · obtain ⟨x5, ex5, hm⟩ := cv_lt_s hm
        refine cv_iinc (v := x5) (lv' := [(3, .int x5), (0, .ref (q 0)), (1, .int u1), (2, .int j3)]) (q := 66) 3 C dX6_sortsOf_63 rfl (by rw [ex5]; rfl) (by decide) rfl rfl ?_
        refine cv_goto (tgt := 5) C dX6_sortsOf_66 (by decide) ?_
        refine cv_sub [1, 2, 3, 0] rfl ?_
        exact ih j3 x5 hm kx
      · have hm := hj3
        refine cv_icmp_ne (tgt := 63) (q := 25) C dX6_sortsOf_22 (by decide) rfl (fun h6 => ?_) (fun h6 => ?_)
        · have hm := cv_if_f h6 hm
          obtain rfl := Option.some.inj hm
          exact K4
        · have hm := cv_if_t h6 hm
          refine cv_aload_n (i := 0) (q := 26) 0 C dX6_sortsOf_25 rfl rfl rfl ?_
          refine cv_get (q := 29) C iX6_sortsOf_X6 0 rfl rfl 29 (by decide) (List.mem_of_getElem? (i := 2) rfl) rfl rfl dX6_sortsOf_26 rfl ?_
          refine cv_iload_n (i := 3) (q := 30) 3 C dX6_sortsOf_29 rfl rfl rfl ?_
          refine cv_iconst (v := 1) (q := 31) C dX6_sortsOf_30 (by decide) rfl ?_
          refine cv_iadd (q := 32) C dX6_sortsOf_31 rfl ?_
          obtain ⟨g7, hm⟩ := cv_gd_s hm
          refine cv_iald (q := 33) C 18 0 rfl rfl (vp_in_iff.mpr g7) dX6_sortsOf_32 rfl ?_
          obtain ⟨r8, hr8, hm⟩ := cv_bd_s hm
          refine cv_goE (q := 36) C (KX6_sortsBy (l := l) (σ := σ) (D := D) (cy := cy)     ((gX6_sights S) ((y3 + (1 : Int32))).toNatClampNeg) hr8) (cv_rs (As := [.int ((gX6_sights S) ((y3 + (1 : Int32))).toNatClampNeg)]) (st := []) (n := 1) C (KX6_sortsBy (l := l) (σ := σ) (D := D) (cy := cy)     ((gX6_sights S) ((y3 + (1 : Int32))).toNatClampNeg) hr8) gX6_sortsOf_X6_sortsBy rfl ⟨rfl, rfl⟩ (by decide +kernel) rfl ⟨Nat.le_of_ble_eq_true rfl, Nat.le_of_ble_eq_true rfl⟩ rfl (Nat.le_of_ble_eq_true rfl) dX6_sortsOf_33 ⟨Nat.zero_le _, Nat.zero_le _⟩) rfl ?_
          refine cv_istore (i := 4) (lv' := [(4, .int r8), (0, .ref (q 0)), (1, .int u1), (2, .int y2), (3, .int y3)]) (q := 38) C dX6_sortsOf_36 (by decide) rfl rfl ?_
          refine cv_iload_n (i := 2) (q := 39) 3 C dX6_sortsOf_38 rfl rfl rfl ?_
          refine cv_aload_n (i := 0) (q := 40) 1 C dX6_sortsOf_39 rfl rfl rfl ?_
          refine cv_get (q := 43) C iX6_sortsOf_X6 0 rfl rfl 29 (by decide) (List.mem_of_getElem? (i := 2) rfl) rfl rfl dX6_sortsOf_40 rfl ?_
          refine cv_iload_n (i := 3) (q := 44) 4 C dX6_sortsOf_43 rfl rfl rfl ?_
          refine cv_iconst (v := 2) (q := 45) C dX6_sortsOf_44 (by decide) rfl ?_
          refine cv_iadd (q := 46) C dX6_sortsOf_45 rfl ?_
          obtain ⟨g9, hm⟩ := cv_gd_s hm
          refine cv_iald (q := 47) C 18 0 rfl rfl (vp_in_iff.mpr g9) dX6_sortsOf_46 rfl ?_
          refine cv_iconst (v := 1) (q := 48) C dX6_sortsOf_47 (by decide) rfl ?_
          obtain ⟨j10, hj10, hm⟩ := cv_bd_s hm
          refine cv_cut (ws' := (wX6 q cy S)) (pc' := 61) (lv' := [(0, .ref (q 0)), (1, .int u1), (3, .int y3)]) (st' := [.int j10, .int y2]) ?_ (fun K11 => ?_)
          · refine cv_iand (q := 62) C dX6_sortsOf_61 rfl ?_
            obtain ⟨x12, ex12, hm⟩ := cv_lt_s hm
            refine cv_topi ex12 ?_
            refine cv_istore_n (i := 2) (lv' := [(2, .int x12), (0, .ref (q 0)), (1, .int u1), (3, .int y3)]) (q := 63) C dX6_sortsOf_62 rfl (by decide) rfl rfl ?_
            obtain rfl := Option.some.inj hm
            refine cv_sub [1, 2, 0, 3] rfl ?_
            exact K4
          · have hm := hj10
            refine cv_icmp_ne (tgt := 56) (q := 51) C dX6_sortsOf_48 (by decide) rfl (fun h13 => ?_) (fun h13 => ?_)
            · have hm := cv_if_f h13 hm
              refine cv_bipush (v := 31) (q := 58) C dX6_sortsOf_56 (by decide) rfl ?_
              refine cv_iload (i := 4) (q := 60) 0 C dX6_sortsOf_58 rfl rfl ?_
              refine cv_isub (q := 61) C dX6_sortsOf_60 rfl ?_
              obtain rfl := Option.some.inj hm
              refine cv_sub [1, 2, 4] rfl ?_
              exact K11
            · have hm := cv_if_t h13 hm
              refine cv_iload (i := 4) (q := 53) 0 C dX6_sortsOf_51 rfl rfl ?_
              refine cv_goto (tgt := 61) C dX6_sortsOf_53 (by decide) ?_
              obtain rfl := Option.some.inj hm
              refine cv_sub [1, 2, 4] rfl ?_
              exact K11
set_option maxHeartbeats 4000000 in
set_option maxRecDepth 100000 in
theorem KX6_sortsOf {l : Launch} {σ : Nat → Nat} {D : va_G} {cy : ClassId} (q : Nat → Nat) (S : SX6) (a1 : Int32) {res : Int32} (hm : fX6_sortsOf S a1 = some res) : cv_M l yX6_sortsOf wsX6_sortsOf rX6_sortsOf σ D [(cy, .int)] [.ref (q 0), .int a1] (wX6 q cy S) (some (.int res)) (wX6 q cy S) := by
  unfold fX6_sortsOf at hm
  refine cv_M.of (own := RX6) (by decide +kernel) rfl rfl (lv := [(0, .ref (q 0)), (1, .int a1)]) rfl (Nat.le_of_ble_eq_true rfl) ?_
  intro p e s m args below meth c A C hr hk
  refine cv_bipush (v := 31) (q := 2) C dX6_sortsOf_0 (by decide) rfl ?_
  refine cv_istore_n (i := 2) (lv' := [(2, .int (31 : Int32)), (0, .ref (q 0)), (1, .int a1)]) (q := 3) C dX6_sortsOf_2 rfl (by decide) rfl rfl ?_
  refine cv_iconst (v := 0) (q := 4) C dX6_sortsOf_3 (by decide) rfl ?_
  refine cv_istore_n (i := 3) (lv' := [(3, .int (0 : Int32)), (2, .int (31 : Int32)), (0, .ref (q 0)), (1, .int a1)]) (q := 5) C dX6_sortsOf_4 rfl (by decide) rfl rfl ?_
  obtain ⟨j14, hj14, hm⟩ := cv_bd_s hm
  refine cv_cut (ws' := (wX6 q cy S)) (pc' := 69) (lv' := [(2, .int j14)]) (st' := []) ?_ (fun K15 => ?_)
  · refine cv_iload_n (i := 2) (q := 70) 0 C dX6_sortsOf_69 rfl rfl rfl ?_
    obtain rfl := Option.some.inj hm
    exact cv_iret C hr hk dX6_sortsOf_70
  · refine cv_sub [2, 3, 1, 0] rfl ?_
    exact vX6_sortsOf_L5 q S a1 C 256 (31 : Int32) (0 : Int32) hj14 K15
def fX6_ones_L4 (u0 : Int32) : Nat → Int32 → Int32 → Option (Int32)
  | 0, _, _ => none
  | n + 1, y1, y2 =>
    if (5 : Int32) ≤ y2 then
      (
      some y1
      )
    else
      (
      cv_lt ((y1 + ((u0 >>> (y2 &&& 31)) &&& (1 : Int32)))) fun x2 =>
      cv_lt (y2 + (1 : Int32)) fun x3 =>
      fX6_ones_L4 u0 n x2 x3
      )
def fX6_ones (a0 : Int32) : Option (Int32) :=
  cv_bd (fX6_ones_L4 a0 256 (0 : Int32) (0 : Int32)) fun j4 =>
  some j4
abbrev rX6_ones : Room := { frames := 0, cells := 0, slots := 0, locals := 0 }
set_option maxHeartbeats 4000000 in
set_option maxRecDepth 100000 in
theorem vX6_ones_L4 {p : Program} {l : Launch} {e : Env} {s : State} {m : MethodId} {args : Array Value} {below : List Frame} {meth : Method} {c : Code} {σ : Nat → Nat} {D : va_G} {A : Nat → Prop} {cy : ClassId} (u0 : Int32) (C : cv_C p s m args c cX6_ones 3 RX6 wsX6_ones σ D [(cy, .int)] A) {Q : State → Prop} {j : Int32} : ∀ (n : Nat) (y1 : Int32) (y2 : Int32), fX6_ones_L4 u0 n y1 y2 = some j → cv_V p l e rX6_ones s m args below meth c 3 D A Q 0 0 [] 23 [(1, .int j)] [] → cv_V p l e rX6_ones s m args below meth c 3 D A Q 0 0 [] 4 [(0, .int u0), (1, .int y1), (2, .int y2)] [] := by
  intro n
  induction n with
  | zero => intro y1 y2 hm kx; cases hm
  | succ n ih =>
    intro y1 y2 hm kx
    have hm : fX6_ones_L4 u0 (n + 1) y1 y2 = some j := hm
    unfold fX6_ones_L4 at hm
    refine cv_iload_n (i := 2) (q := 5) 2 C dX6_ones_4 rfl rfl rfl ?_
    refine cv_iconst (v := 5) (q := 6) C dX6_ones_5 (by decide) rfl ?_
    refine cv_icmp_ge (tgt := 23) (q := 9) C dX6_ones_6 (by decide) rfl (fun h1 => ?_) (fun h1 => ?_)
    · have hm := cv_if_t h1 hm
      obtain rfl := Option.some.inj hm
      refine cv_sub [1] rfl ?_
      exact kx
    · have hm := cv_if_f h1 hm
      refine cv_iload_n (i := 1) (q := 10) 1 C dX6_ones_9 rfl rfl rfl ?_
      refine cv_iload_n (i := 0) (q := 11) 0 C dX6_ones_10 rfl rfl rfl ?_
      refine cv_iload_n (i := 2) (q := 12) 2 C dX6_ones_11 rfl rfl rfl ?_
      refine cv_ishr (q := 13) C dX6_ones_12 rfl ?_
      refine cv_iconst (v := 1) (q := 14) C dX6_ones_13 (by decide) rfl ?_
      refine cv_iand (q := 15) C dX6_ones_14 rfl ?_
      refine cv_iadd (q := 16) C dX6_ones_15 rfl ?_
      obtain ⟨x2, ex2, hm⟩ := cv_lt_s hm
      refine cv_topi ex2 ?_
      refine cv_istore_n (i := 1) (lv' := [(1, .int x2), (0, .int u0), (2, .int y2)]) (q := 17) C dX6_ones_16 rfl (by decide) rfl rfl ?_
      obtain ⟨x3, ex3, hm⟩ := cv_lt_s hm
      refine cv_iinc (v := x3) (lv' := [(2, .int x3), (1, .int x2), (0, .int u0)]) (q := 20) 2 C dX6_ones_17 rfl (by rw [ex3]; rfl) (by decide) rfl rfl ?_
      refine cv_goto (tgt := 4) C dX6_ones_20 (by decide) ?_
      refine cv_sub [2, 1, 0] rfl ?_
      exact ih x2 x3 hm kx
set_option maxHeartbeats 4000000 in
set_option maxRecDepth 100000 in
theorem KX6_ones {l : Launch} {σ : Nat → Nat} {D : va_G} {cy : ClassId} (a0 : Int32) {res : Int32} (hm : fX6_ones a0 = some res) : cv_M l yX6_ones wsX6_ones rX6_ones σ D [(cy, .int)] [.int a0] [] (some (.int res)) [] := by
  unfold fX6_ones at hm
  refine cv_M.of (own := RX6) (by decide +kernel) rfl rfl (lv := [(0, .int a0)]) rfl (Nat.le_of_ble_eq_true rfl) ?_
  intro p e s m args below meth c A C hr hk
  refine cv_iconst (v := 0) (q := 1) C dX6_ones_0 (by decide) rfl ?_
  refine cv_istore_n (i := 1) (lv' := [(1, .int (0 : Int32)), (0, .int a0)]) (q := 2) C dX6_ones_1 rfl (by decide) rfl rfl ?_
  refine cv_iconst (v := 0) (q := 3) C dX6_ones_2 (by decide) rfl ?_
  refine cv_istore_n (i := 2) (lv' := [(2, .int (0 : Int32)), (1, .int (0 : Int32)), (0, .int a0)]) (q := 4) C dX6_ones_3 rfl (by decide) rfl rfl ?_
  obtain ⟨j4, hj4, hm⟩ := cv_bd_s hm
  refine cv_cut (ws' := []) (pc' := 23) (lv' := [(1, .int j4)]) (st' := []) ?_ (fun K5 => ?_)
  · refine cv_iload_n (i := 1) (q := 24) 0 C dX6_ones_23 rfl rfl rfl ?_
    obtain rfl := Option.some.inj hm
    exact cv_iret C hr hk dX6_ones_24
  · refine cv_sub [2, 1, 0] rfl ?_
    exact vX6_ones_L4  a0 C 256 (0 : Int32) (0 : Int32) hj4 K5
def fX6_askOf_L15 (S : SX6) (u2 : Int32) : Nat → Int32 → Int32 → Int32 → Option (Int32)
  | 0, _, _, _ => none
  | n + 1, y3, y4, y5 =>
    if (4 : Int32) ≤ y5 then
      (
      some y3
      )
    else
      (
      if u2 = 0 then
        (
        some y3
        )
      else
        (
        cv_bd (fX6_sortsBy y5) fun r4 =>
        cv_bd (fX6_ones (u2 &&& r4)) fun r5 =>
        cv_bd (fX6_ones u2) fun r6 =>
        cv_lt ((r6 - r5)) fun x7 =>
        cv_bd (
          if r5 ≤ x7 then
            (
            some x7
            )
          else
            (
            some r5
            )
        ) fun j8 =>
        cv_bd (
          if y4 ≤ j8 then
            (
            some y3
            )
          else
            (
            some y5
            )
        ) fun j10 =>
        cv_bd (
          if y4 ≤ j8 then
            (
            some y4
            )
          else
            (
            some j8
            )
        ) fun j12 =>
        cv_lt (y5 + (1 : Int32)) fun x14 =>
        fX6_askOf_L15 S u2 n j10 j12 x14
        )
      )
def fX6_askOf (S : SX6) (a1 : Int32) : Option (Int32) :=
  cv_bd (fX6_sortsOf S a1) fun r1 =>
  cv_bd (fX6_askOf_L15 S r1 256 (-1 : Int32) (6 : Int32) (0 : Int32)) fun j18 =>
  some j18
abbrev rX6_askOf : Room := { frames := 2, cells := 0, slots := 0, locals := 44 }
set_option maxHeartbeats 4000000 in
set_option maxRecDepth 100000 in
theorem vX6_askOf_L15 {p : Program} {l : Launch} {e : Env} {s : State} {m : MethodId} {args : Array Value} {below : List Frame} {meth : Method} {c : Code} {σ : Nat → Nat} {D : va_G} {A : Nat → Prop} {cy : ClassId} (q : Nat → Nat) (S : SX6) (u2 : Int32) (C : cv_C p s m args c cX6_askOf 9 RX6 wsX6_askOf σ D [(cy, .int)] A) {Q : State → Prop} {j : Int32} : ∀ (n : Nat) (y3 : Int32) (y4 : Int32) (y5 : Int32), fX6_askOf_L15 S u2 n y3 y4 y5 = some j → cv_V p l e rX6_askOf s m args below meth c 9 D A Q 0 0 (wX6 q cy S) 98 [(3, .int j)] [] → cv_V p l e rX6_askOf s m args below meth c 9 D A Q 0 0 (wX6 q cy S) 15 [(2, .int u2), (3, .int y3), (4, .int y4), (5, .int y5)] [] := by
  intro n
  induction n with
  | zero => intro y3 y4 y5 hm kx; cases hm
  | succ n ih =>
    intro y3 y4 y5 hm kx
    have hm : fX6_askOf_L15 S u2 (n + 1) y3 y4 y5 = some j := hm
    unfold fX6_askOf_L15 at hm
    refine cv_iload (i := 5) (q := 17) 3 C dX6_askOf_15 rfl rfl ?_
    refine cv_iconst (v := 4) (q := 18) C dX6_askOf_17 (by decide) rfl ?_
    refine cv_icmp_ge (tgt := 98) (q := 21) C dX6_askOf_18 (by decide) rfl (fun h2 => ?_) (fun h2 => ?_)
    · have hm := cv_if_t h2 hm
      obtain rfl := Option.some.inj hm
      refine cv_sub [1] rfl ?_
      exact kx
    · have hm := cv_if_f h2 hm
      refine cv_iload_n (i := 2) (q := 22) 0 C dX6_askOf_21 rfl rfl rfl ?_
      refine cv_if_eq (tgt := 98) (q := 25) C dX6_askOf_22 (by decide) rfl (fun h3 => ?_) (fun h3 => ?_)
      · have hm := cv_if_t h3 hm
        obtain rfl := Option.some.inj hm
        refine cv_sub [1] rfl ?_
        exact kx
      · have hm := cv_if_f h3 hm
        refine cv_iload_n (i := 2) (q := 26) 0 C dX6_askOf_25 rfl rfl rfl ?_
        refine cv_iload (i := 5) (q := 28) 3 C dX6_askOf_26 rfl rfl ?_
        obtain ⟨r4, hr4, hm⟩ := cv_bd_s hm
        refine cv_goE (q := 31) C (KX6_sortsBy (l := l) (σ := σ) (D := D) (cy := cy)     y5 hr4) (cv_rs (As := [.int y5]) (st := [.int u2]) (n := 1) C (KX6_sortsBy (l := l) (σ := σ) (D := D) (cy := cy)     y5 hr4) gX6_askOf_X6_sortsBy rfl ⟨rfl, rfl⟩ (by decide +kernel) rfl ⟨Nat.le_of_ble_eq_true rfl, Nat.le_of_ble_eq_true rfl⟩ rfl (Nat.le_of_ble_eq_true rfl) dX6_askOf_28 ⟨Nat.zero_le _, Nat.zero_le _⟩) rfl ?_
        refine cv_iand (q := 32) C dX6_askOf_31 rfl ?_
        obtain ⟨r5, hr5, hm⟩ := cv_bd_s hm
        refine cv_goE (q := 35) C (KX6_ones (l := l) (σ := σ) (D := D) (cy := cy)     (u2 &&& r4) hr5) (cv_rs (As := [.int (u2 &&& r4)]) (st := []) (n := 1) C (KX6_ones (l := l) (σ := σ) (D := D) (cy := cy)     (u2 &&& r4) hr5) gX6_askOf_X6_ones rfl ⟨rfl, rfl⟩ (by decide +kernel) rfl ⟨Nat.le_of_ble_eq_true rfl, Nat.le_of_ble_eq_true rfl⟩ rfl (Nat.le_of_ble_eq_true rfl) dX6_askOf_32 ⟨Nat.zero_le _, Nat.zero_le _⟩) rfl ?_
        refine cv_istore (i := 6) (lv' := [(6, .int r5), (2, .int u2), (3, .int y3), (4, .int y4), (5, .int y5)]) (q := 37) C dX6_askOf_35 (by decide) rfl rfl ?_
        refine cv_iload_n (i := 2) (q := 38) 1 C dX6_askOf_37 rfl rfl rfl ?_
        obtain ⟨r6, hr6, hm⟩ := cv_bd_s hm
        refine cv_goE (q := 41) C (KX6_ones (l := l) (σ := σ) (D := D) (cy := cy)     u2 hr6) (cv_rs (As := [.int u2]) (st := []) (n := 1) C (KX6_ones (l := l) (σ := σ) (D := D) (cy := cy)     u2 hr6) gX6_askOf_X6_ones rfl ⟨rfl, rfl⟩ (by decide +kernel) rfl ⟨Nat.le_of_ble_eq_true rfl, Nat.le_of_ble_eq_true rfl⟩ rfl (Nat.le_of_ble_eq_true rfl) dX6_askOf_38 ⟨Nat.zero_le _, Nat.zero_le _⟩) rfl ?_
        refine cv_iload (i := 6) (q := 43) 0 C dX6_askOf_41 rfl rfl ?_
        refine cv_isub (q := 44) C dX6_askOf_43 rfl ?_
        obtain ⟨x7, ex7, hm⟩ := cv_lt_s hm
        refine cv_topi ex7 ?_
        refine cv_istore (i := 7) (lv' := [(7, .int x7), (6, .int r5), (2, .int u2), (3, .int y3), (4, .int y4), (5, .int y5)]) (q := 46) C dX6_askOf_44 (by decide) rfl rfl ?_
        refine cv_iload (i := 6) (q := 48) 1 C dX6_askOf_46 rfl rfl ?_
        refine cv_iload (i := 7) (q := 50) 0 C dX6_askOf_48 rfl rfl ?_
        obtain ⟨j8, hj8, hm⟩ := cv_bd_s hm
        refine cv_cut (ws' := (wX6 q cy S)) (pc' := 60) (lv' := [(2, .int u2), (3, .int y3), (4, .int y4), (5, .int y5)]) (st' := [.int j8]) ?_ (fun K9 => ?_)
        · refine cv_istore (i := 8) (lv' := [(8, .int j8), (2, .int u2), (3, .int y3), (4, .int y4), (5, .int y5)]) (q := 62) C dX6_askOf_60 (by decide) rfl rfl ?_
          refine cv_iload (i := 8) (q := 64) 0 C dX6_askOf_62 rfl rfl ?_
          refine cv_iload (i := 4) (q := 66) 3 C dX6_askOf_64 rfl rfl ?_
          obtain ⟨j10, hj10, hm⟩ := cv_bd_s hm
          refine cv_cut (ws' := (wX6 q cy S)) (pc' := 75) (lv' := [(2, .int u2), (4, .int y4), (5, .int y5), (8, .int j8)]) (st' := [.int j10]) ?_ (fun K11 => ?_)
          · refine cv_istore_n (i := 3) (lv' := [(3, .int j10), (2, .int u2), (4, .int y4), (5, .int y5), (8, .int j8)]) (q := 76) C dX6_askOf_75 rfl (by decide) rfl rfl ?_
            refine cv_iload (i := 8) (q := 78) 4 C dX6_askOf_76 rfl rfl ?_
            refine cv_iload (i := 4) (q := 80) 2 C dX6_askOf_78 rfl rfl ?_
            obtain ⟨j12, hj12, hm⟩ := cv_bd_s hm
            refine cv_cut (ws' := (wX6 q cy S)) (pc' := 90) (lv' := [(2, .int u2), (3, .int j10), (5, .int y5)]) (st' := [.int j12]) ?_ (fun K13 => ?_)
            · refine cv_istore (i := 4) (lv' := [(4, .int j12), (2, .int u2), (3, .int j10), (5, .int y5)]) (q := 92) C dX6_askOf_90 (by decide) rfl rfl ?_
              obtain ⟨x14, ex14, hm⟩ := cv_lt_s hm
              refine cv_iinc (v := x14) (lv' := [(5, .int x14), (4, .int j12), (2, .int u2), (3, .int j10)]) (q := 95) 3 C dX6_askOf_92 rfl (by rw [ex14]; rfl) (by decide) rfl rfl ?_
              refine cv_goto (tgt := 15) C dX6_askOf_95 (by decide) ?_
              refine cv_sub [2, 3, 1, 0] rfl ?_
              exact ih j10 j12 x14 hm kx
            · have hm := hj12
              refine cv_icmp_ge (tgt := 88) (q := 83) C dX6_askOf_80 (by decide) rfl (fun h15 => ?_) (fun h15 => ?_)
              · have hm := cv_if_t h15 hm
                refine cv_iload (i := 4) (q := 90) 2 C dX6_askOf_88 rfl rfl ?_
                obtain rfl := Option.some.inj hm
                refine cv_sub [1, 0, 3] rfl ?_
                exact K13
              · have hm := cv_if_f h15 hm
                refine cv_iload (i := 8) (q := 85) 4 C dX6_askOf_83 rfl rfl ?_
                refine cv_goto (tgt := 90) C dX6_askOf_85 (by decide) ?_
                obtain rfl := Option.some.inj hm
                refine cv_sub [1, 0, 3] rfl ?_
                exact K13
          · have hm := hj10
            refine cv_icmp_ge (tgt := 74) (q := 69) C dX6_askOf_66 (by decide) rfl (fun h16 => ?_) (fun h16 => ?_)
            · have hm := cv_if_t h16 hm
              refine cv_iload_n (i := 3) (q := 75) 2 C dX6_askOf_74 rfl rfl rfl ?_
              obtain rfl := Option.some.inj hm
              refine cv_sub [1, 3, 4, 0] rfl ?_
              exact K11
            · have hm := cv_if_f h16 hm
              refine cv_iload (i := 5) (q := 71) 4 C dX6_askOf_69 rfl rfl ?_
              refine cv_goto (tgt := 75) C dX6_askOf_71 (by decide) ?_
              obtain rfl := Option.some.inj hm
              refine cv_sub [1, 3, 4, 0] rfl ?_
              exact K11
        · have hm := hj8
          refine cv_icmp_le (tgt := 58) (q := 53) C dX6_askOf_50 (by decide) rfl (fun h17 => ?_) (fun h17 => ?_)
          · have hm := cv_if_t h17 hm
            refine cv_iload (i := 7) (q := 60) 0 C dX6_askOf_58 rfl rfl ?_
            obtain rfl := Option.some.inj hm
            refine cv_sub [2, 3, 4, 5] rfl ?_
            exact K9
          · have hm := cv_if_f h17 hm
            refine cv_iload (i := 6) (q := 55) 1 C dX6_askOf_53 rfl rfl ?_
            refine cv_goto (tgt := 60) C dX6_askOf_55 (by decide) ?_
            obtain rfl := Option.some.inj hm
            refine cv_sub [2, 3, 4, 5] rfl ?_
            exact K9
set_option maxHeartbeats 4000000 in
set_option maxRecDepth 100000 in
theorem KX6_askOf {l : Launch} {σ : Nat → Nat} {D : va_G} {cy : ClassId} (q : Nat → Nat) (S : SX6) (a1 : Int32) {res : Int32} (hm : fX6_askOf S a1 = some res) : cv_M l yX6_askOf wsX6_askOf rX6_askOf σ D [(cy, .int)] [.ref (q 0), .int a1] (wX6 q cy S) (some (.int res)) (wX6 q cy S) := by
  unfold fX6_askOf at hm
  refine cv_M.of (own := RX6) (by decide +kernel) rfl rfl (lv := [(0, .ref (q 0)), (1, .int a1)]) rfl (Nat.le_of_ble_eq_true rfl) ?_
  intro p e s m args below meth c A C hr hk
  refine cv_aload_n (i := 0) (q := 1) 0 C dX6_askOf_0 rfl rfl rfl ?_
  refine cv_iload_n (i := 1) (q := 2) 1 C dX6_askOf_1 rfl rfl rfl ?_
  obtain ⟨r1, hr1, hm⟩ := cv_bd_s hm
  refine cv_goW (q := 5) C (KX6_sortsOf (l := l) (σ := σ) (D := D) (cy := cy)  q  S a1 hr1) (cv_rv (As := [.int a1]) (st := []) (n := 1) (q0 := 0) (ci := 6) C (KX6_sortsOf (l := l) (σ := σ) (D := D) (cy := cy)  q  S a1 hr1) rfl rfl gX6_askOf_X6_sortsOf rfl ⟨rfl, rfl⟩ (by decide +kernel) rfl ⟨Nat.le_of_ble_eq_true rfl, Nat.le_of_ble_eq_true rfl⟩ rfl (Nat.le_of_ble_eq_true rfl) dX6_askOf_2 ⟨Nat.zero_le _, Nat.zero_le _⟩) rfl ?_
  refine cv_istore_n (i := 2) (lv' := [(2, .int r1), (0, .ref (q 0)), (1, .int a1)]) (q := 6) C dX6_askOf_5 rfl (by decide) rfl rfl ?_
  refine cv_iconst (v := -1) (q := 7) C dX6_askOf_6 (by decide) rfl ?_
  refine cv_istore_n (i := 3) (lv' := [(3, .int (-1 : Int32)), (2, .int r1), (0, .ref (q 0)), (1, .int a1)]) (q := 8) C dX6_askOf_7 rfl (by decide) rfl rfl ?_
  refine cv_bipush (v := 6) (q := 10) C dX6_askOf_8 (by decide) rfl ?_
  refine cv_istore (i := 4) (lv' := [(4, .int (6 : Int32)), (3, .int (-1 : Int32)), (2, .int r1), (0, .ref (q 0)), (1, .int a1)]) (q := 12) C dX6_askOf_10 (by decide) rfl rfl ?_
  refine cv_iconst (v := 0) (q := 13) C dX6_askOf_12 (by decide) rfl ?_
  refine cv_istore (i := 5) (lv' := [(5, .int (0 : Int32)), (4, .int (6 : Int32)), (3, .int (-1 : Int32)), (2, .int r1), (0, .ref (q 0)), (1, .int a1)]) (q := 15) C dX6_askOf_13 (by decide) rfl rfl ?_
  obtain ⟨j18, hj18, hm⟩ := cv_bd_s hm
  refine cv_cut (ws' := (wX6 q cy S)) (pc' := 98) (lv' := [(3, .int j18)]) (st' := []) ?_ (fun K19 => ?_)
  · refine cv_iload_n (i := 3) (q := 99) 0 C dX6_askOf_98 rfl rfl rfl ?_
    obtain rfl := Option.some.inj hm
    exact cv_iret C hr hk dX6_askOf_99
  · refine cv_sub [3, 2, 1, 0] rfl ?_
    exact vX6_askOf_L15 q S r1 C 256 (-1 : Int32) (6 : Int32) (0 : Int32) hj18 K19
def fX6_sorts (S : SX6) (a1 : Int32) (a2 : Int32) : Option (Int32) :=
  cv_bd (fX6_in ((a1).toInt64) (0 : Int64) (99 : Int64)) fun r1 =>
  if r1 = 0 then
    (
    some (-102 : Int32)
    )
  else
    (
    cv_bd (fX6_in ((a2).toInt64) (0 : Int64) (1 : Int64)) fun r3 =>
    if r3 = 0 then
      (
      some (-102 : Int32)
      )
    else
      (
      if a2 = 0 then
        (
        cv_bd (fX6_sortsOf S a1) fun r7 =>
        some r7
        )
      else
        (
        cv_bd (fX6_askOf S a1) fun r6 =>
        some r6
        )
      )
    )
abbrev rX6_sorts : Room := { frames := 3, cells := 0, slots := 0, locals := 72 }
set_option maxHeartbeats 4000000 in
set_option maxRecDepth 100000 in
theorem KX6_sorts {l : Launch} {σ : Nat → Nat} {D : va_G} {cy : ClassId} (q : Nat → Nat) (S : SX6) (a1 : Int32) (a2 : Int32) {res : Int32} (hm : fX6_sorts S a1 a2 = some res) : cv_M l yX6_sorts wsX6_sorts rX6_sorts σ D [(cy, .int)] [.ref (q 0), .int a1, .int a2] (wX6 q cy S) (some (.int res)) (wX6 q cy S) := by
  unfold fX6_sorts at hm
  refine cv_M.of (own := RX6) (by decide +kernel) rfl rfl (lv := [(0, .ref (q 0)), (1, .int a1), (2, .int a2)]) rfl (Nat.le_of_ble_eq_true rfl) ?_
  intro p e s m args below meth c A C hr hk
  refine cv_iload_n (i := 1) (q := 1) 1 C dX6_sorts_0 rfl rfl rfl ?_
  refine cv_i2l (q := 2) C dX6_sorts_1 rfl ?_
  refine cv_lconst (v := 0) (q := 3) C dX6_sorts_2 (by decide) rfl ?_
  refine cv_ldc2 (v := 99) (q := 6) C dX6_sorts_3 (List.mem_of_getElem? (i := 1) rfl) rfl ?_
  obtain ⟨r1, hr1, hm⟩ := cv_bd_s hm
  refine cv_goE (q := 9) C (KX6_in (l := l) (σ := σ) (D := D) (cy := cy)     ((a1).toInt64) (0 : Int64) (99 : Int64) hr1) (cv_rs (As := [.long (a1).toInt64, .long (0 : Int64), .long (99 : Int64)]) (st := []) (n := 3) C (KX6_in (l := l) (σ := σ) (D := D) (cy := cy)     ((a1).toInt64) (0 : Int64) (99 : Int64) hr1) gX6_sorts_X6_in rfl ⟨rfl, rfl⟩ (by decide +kernel) rfl ⟨Nat.le_of_ble_eq_true rfl, Nat.le_of_ble_eq_true rfl⟩ rfl (Nat.le_of_ble_eq_true rfl) dX6_sorts_6 ⟨Nat.zero_le _, Nat.zero_le _⟩) rfl ?_
  refine cv_if_eq (tgt := 22) (q := 12) C dX6_sorts_9 (by decide) rfl (fun h2 => ?_) (fun h2 => ?_)
  · have hm := cv_if_t h2 hm
    refine cv_bipush (v := -102) (q := 24) C dX6_sorts_22 (by decide) rfl ?_
    obtain rfl := Option.some.inj hm
    exact cv_iret C hr hk dX6_sorts_24
  · have hm := cv_if_f h2 hm
    refine cv_iload_n (i := 2) (q := 13) 2 C dX6_sorts_12 rfl rfl rfl ?_
    refine cv_i2l (q := 14) C dX6_sorts_13 rfl ?_
    refine cv_lconst (v := 0) (q := 15) C dX6_sorts_14 (by decide) rfl ?_
    refine cv_lconst (v := 1) (q := 16) C dX6_sorts_15 (by decide) rfl ?_
    obtain ⟨r3, hr3, hm⟩ := cv_bd_s hm
    refine cv_goE (q := 19) C (KX6_in (l := l) (σ := σ) (D := D) (cy := cy)     ((a2).toInt64) (0 : Int64) (1 : Int64) hr3) (cv_rs (As := [.long (a2).toInt64, .long (0 : Int64), .long (1 : Int64)]) (st := []) (n := 3) C (KX6_in (l := l) (σ := σ) (D := D) (cy := cy)     ((a2).toInt64) (0 : Int64) (1 : Int64) hr3) gX6_sorts_X6_in rfl ⟨rfl, rfl⟩ (by decide +kernel) rfl ⟨Nat.le_of_ble_eq_true rfl, Nat.le_of_ble_eq_true rfl⟩ rfl (Nat.le_of_ble_eq_true rfl) dX6_sorts_16 ⟨Nat.zero_le _, Nat.zero_le _⟩) rfl ?_
    refine cv_if_ne (tgt := 25) (q := 22) C dX6_sorts_19 (by decide) rfl (fun h4 => ?_) (fun h4 => ?_)
    · have hm := cv_if_f h4 hm
      refine cv_iload_n (i := 2) (q := 26) 2 C dX6_sorts_25 rfl rfl rfl ?_
      refine cv_if_ne (tgt := 37) (q := 29) C dX6_sorts_26 (by decide) rfl (fun h5 => ?_) (fun h5 => ?_)
      · have hm := cv_if_f h5 hm
        refine cv_aload_n (i := 0) (q := 38) 0 C dX6_sorts_37 rfl rfl rfl ?_
        refine cv_iload_n (i := 1) (q := 39) 1 C dX6_sorts_38 rfl rfl rfl ?_
        obtain ⟨r6, hr6, hm⟩ := cv_bd_s hm
        refine cv_goW (q := 42) C (KX6_askOf (l := l) (σ := σ) (D := D) (cy := cy)  q  S a1 hr6) (cv_rv (As := [.int a1]) (st := []) (n := 1) (q0 := 0) (ci := 6) C (KX6_askOf (l := l) (σ := σ) (D := D) (cy := cy)  q  S a1 hr6) rfl rfl gX6_sorts_X6_askOf rfl ⟨rfl, rfl⟩ (by decide +kernel) rfl ⟨Nat.le_of_ble_eq_true rfl, Nat.le_of_ble_eq_true rfl⟩ rfl (Nat.le_of_ble_eq_true rfl) dX6_sorts_39 ⟨Nat.zero_le _, Nat.zero_le _⟩) rfl ?_
        obtain rfl := Option.some.inj hm
        exact cv_iret C hr hk dX6_sorts_42
      · have hm := cv_if_t h5 hm
        refine cv_aload_n (i := 0) (q := 30) 0 C dX6_sorts_29 rfl rfl rfl ?_
        refine cv_iload_n (i := 1) (q := 31) 1 C dX6_sorts_30 rfl rfl rfl ?_
        obtain ⟨r7, hr7, hm⟩ := cv_bd_s hm
        refine cv_goW (q := 34) C (KX6_sortsOf (l := l) (σ := σ) (D := D) (cy := cy)  q  S a1 hr7) (cv_rv (As := [.int a1]) (st := []) (n := 1) (q0 := 0) (ci := 6) C (KX6_sortsOf (l := l) (σ := σ) (D := D) (cy := cy)  q  S a1 hr7) rfl rfl gX6_sorts_X6_sortsOf rfl ⟨rfl, rfl⟩ (by decide +kernel) rfl ⟨Nat.le_of_ble_eq_true rfl, Nat.le_of_ble_eq_true rfl⟩ rfl (Nat.le_of_ble_eq_true rfl) dX6_sorts_31 ⟨Nat.zero_le _, Nat.zero_le _⟩) rfl ?_
        refine cv_goto (tgt := 42) C dX6_sorts_34 (by decide) ?_
        obtain rfl := Option.some.inj hm
        exact cv_iret C hr hk dX6_sorts_42
    · have hm := cv_if_t h4 hm
      refine cv_bipush (v := -102) (q := 24) C dX6_sorts_22 (by decide) rfl ?_
      obtain rfl := Option.some.inj hm
      exact cv_iret C hr hk dX6_sorts_24
def fX6_draw (S : SX6) (a1 : Int32) : Option (Int32 × SX6) :=
  cv_lt (sX6_seedNow S (((((1103515245 : Int64) * ((gX6_seedNow S)).toInt64) + (12345 : Int64)) &&& (2147483647 : Int64))).toInt32) fun s1 =>
  cv_gd (¬ a1 = 0) <|
  some ((((gX6_seedNow s1) / (65536 : Int32)) - ((gX6_seedNow s1) / (65536 : Int32)) / a1 * a1), s1)
abbrev rX6_draw : Room := { frames := 0, cells := 0, slots := 0, locals := 0 }
theorem iX6_draw_X6 : ∀ w ∈ u_ws RX6 TX6 50, w ∈ wsX6_draw := fun w h => List.mem_cons_of_mem _ (List.mem_append_right _ h)
set_option maxHeartbeats 4000000 in
set_option maxRecDepth 100000 in
theorem KX6_draw {l : Launch} {σ : Nat → Nat} {D : va_G} {cy : ClassId} (q : Nat → Nat) (S : SX6) (a1 : Int32) {res : Int32 × SX6} (hm : fX6_draw S a1 = some res) : cv_M l yX6_draw wsX6_draw rX6_draw σ D [(cy, .int)] [.ref (q 0), .int a1] (wX6 q cy S) (some (.int res.1)) (wX6 q cy res.2) := by
  unfold fX6_draw at hm
  refine cv_M.of (own := RX6) (by decide +kernel) rfl rfl (lv := [(0, .ref (q 0)), (1, .int a1)]) rfl (Nat.le_of_ble_eq_true rfl) ?_
  intro p e s m args below meth c A C hr hk
  refine cv_aload_n (i := 0) (q := 1) 0 C dX6_draw_0 rfl rfl rfl ?_
  refine cv_ldc2 (v := 1103515245) (q := 4) C dX6_draw_1 (List.mem_of_getElem? (i := 1) rfl) rfl ?_
  refine cv_aload_n (i := 0) (q := 5) 0 C dX6_draw_4 rfl rfl rfl ?_
  refine cv_get (q := 8) C iX6_draw_X6 0 rfl rfl 30 (by decide) (List.mem_of_getElem? (i := 2) rfl) rfl rfl dX6_draw_5 rfl ?_
  refine cv_i2l (q := 9) C dX6_draw_8 rfl ?_
  refine cv_lmul (q := 10) C dX6_draw_9 rfl ?_
  refine cv_ldc2 (v := 12345) (q := 13) C dX6_draw_10 (List.mem_of_getElem? (i := 3) rfl) rfl ?_
  refine cv_ladd (q := 14) C dX6_draw_13 rfl ?_
  refine cv_ldc2 (v := 2147483647) (q := 17) C dX6_draw_14 (List.mem_of_getElem? (i := 4) rfl) rfl ?_
  refine cv_land (q := 18) C dX6_draw_17 rfl ?_
  refine cv_l2i (q := 19) C dX6_draw_18 rfl ?_
  obtain ⟨s1, es1, hm⟩ := cv_lt_s hm
  refine cv_put (q := 22) (ws' := (wX6 q cy s1)) C iX6_draw_X6 tyX6 tyX6_ok nmX6 0 rfl rfl 30 (by decide) (List.mem_of_getElem? (i := 2) rfl) rfl rfl rfl rfl rfl (Nat.le_of_ble_eq_true rfl) dX6_draw_19 rfl (by rw [es1]; rfl) ?_
  refine cv_aload_n (i := 0) (q := 23) 0 C dX6_draw_22 rfl rfl rfl ?_
  refine cv_get (q := 26) C iX6_draw_X6 0 rfl rfl 30 (by decide) (List.mem_of_getElem? (i := 2) rfl) rfl rfl dX6_draw_23 rfl ?_
  refine cv_ldc_w (v := 65536) (q := 29) C dX6_draw_26 (List.mem_of_getElem? (i := 5) rfl) rfl ?_
  refine cv_idiv (q := 30) C dX6_draw_29 (by decide) rfl ?_
  refine cv_iload_n (i := 1) (q := 31) 1 C dX6_draw_30 rfl rfl rfl ?_
  obtain ⟨g2, hm⟩ := cv_gd_s hm
  refine cv_irem (q := 32) C dX6_draw_31 g2 rfl ?_
  obtain rfl := Option.some.inj hm
  exact cv_iret C hr hk dX6_draw_32
def fX6_drawn_L53 (u1 : Int32) (u3 : Int32) : Nat → Int32 → SX6 → Option (SX6)
  | 0, _, _ => none
  | n + 1, y4, S =>
    if u1 ≤ y4 then
      (
      some S
      )
    else
      (
      cv_bd (fX6_draw S (100 : Int32)) fun r11 =>
      cv_gd (0 ≤ (((100 : Int32) + r11.1)).toInt ∧ (((100 : Int32) + r11.1)).toInt < 200) <|
      cv_bd (
        if ((gX6_there r11.2) (((100 : Int32) + r11.1)).toNatClampNeg) = (1 : Int32) then
          (
          cv_bd (fX6_leave r11.2 (1 : Int32) r11.1) fun r20 =>
          some r20
          )
        else
          (
          cv_gd (0 ≤ ((1 : Int32)).toInt ∧ ((1 : Int32)).toInt < 2) <|
          if (40 : Int32) ≤ ((gX6_many r11.2) ((1 : Int32)).toNatClampNeg) then
            (
            some r11.2
            )
          else
            (
            cv_bd (fX6_enter r11.2 (1 : Int32) r11.1) fun r19 =>
            some r19
            )
          )
      ) fun j13 =>
      cv_lt (y4 + (1 : Int32)) fun x15 =>
      fX6_drawn_L53 u1 u3 n x15 j13
      )
def fX6_drawn (S : SX6) (a1 : Int32) (a2 : Int32) (a3 : Int32) : Option (Int32 × SX6) :=
  cv_bd (fX6_in ((a1).toInt64) (1 : Int64) (60 : Int64)) fun r1 =>
  if r1 = 0 then
    (
    some ((-102 : Int32), S)
    )
  else
    (
    if a2 < 0 then
      (
      some ((-102 : Int32), S)
      )
    else
      (
      cv_bd (fX6_in ((a3).toInt64) (0 : Int64) (2 : Int64)) fun r4 =>
      if r4 = 0 then
        (
        some ((-102 : Int32), S)
        )
      else
        (
        cv_bd (fX6_lacks S) fun r6 =>
        if r6 = 0 then
          (
          cv_lt (sX6_seedNow S a2) fun s8 =>
          cv_bd (fX6_begin s8) fun r9 =>
          cv_bd (fX6_drawn_L53 a1 a3 256 (0 : Int32) r9) fun j21 =>
          if a3 = 0 then
            (
            cv_gd (0 ≤ ((1 : Int32)).toInt ∧ ((1 : Int32)).toInt < 2) <|
            some (((gX6_cost j21) ((1 : Int32)).toNatClampNeg), j21)
            )
          else
            (
            if a3 = (1 : Int32) then
              (
              cv_bd (fX6_tall j21 (1 : Int32)) fun r25 =>
              some (r25, j21)
              )
            else
              (
              some ((gX6_seedNow j21), j21)
              )
            )
          )
        else
          (
          some ((-103 : Int32), S)
          )
        )
      )
    )
abbrev rX6_drawn : Room := { frames := 5, cells := 0, slots := 0, locals := 115 }
theorem iX6_drawn_X6 : ∀ w ∈ u_ws RX6 TX6 50, w ∈ wsX6_drawn := fun w h => List.mem_cons_of_mem _ (List.mem_append_right _ h)
set_option maxHeartbeats 4000000 in
set_option maxRecDepth 100000 in
theorem vX6_drawn_L53 {p : Program} {l : Launch} {e : Env} {s : State} {m : MethodId} {args : Array Value} {below : List Frame} {meth : Method} {c : Code} {σ : Nat → Nat} {D : va_G} {A : Nat → Prop} {cy : ClassId} (q : Nat → Nat) (u1 : Int32) (u3 : Int32) (C : cv_C p s m args c cX6_drawn 6 RX6 wsX6_drawn σ D [(cy, .int)] A) {Q : State → Prop} {j : SX6} : ∀ (n : Nat) (y4 : Int32) (S : SX6), fX6_drawn_L53 u1 u3 n y4 S = some j → cv_V p l e rX6_drawn s m args below meth c 6 D A Q 0 0 (wX6 q cy j) 115 [(0, .ref (q 0)), (3, .int u3)] [] → cv_V p l e rX6_drawn s m args below meth c 6 D A Q 0 0 (wX6 q cy S) 53 [(0, .ref (q 0)), (1, .int u1), (3, .int u3), (4, .int y4)] [] := by
  intro n
  induction n with
  | zero => intro y4 S hm kx; cases hm
  | succ n ih =>
    intro y4 S hm kx
    have hm : fX6_drawn_L53 u1 u3 (n + 1) y4 S = some j := hm
    unfold fX6_drawn_L53 at hm
    refine cv_iload (i := 4) (q := 55) 3 C dX6_drawn_53 rfl rfl ?_
    refine cv_iload_n (i := 1) (q := 56) 1 C dX6_drawn_55 rfl rfl rfl ?_
    refine cv_icmp_ge (tgt := 115) (q := 59) C dX6_drawn_56 (by decide) rfl (fun h10 => ?_) (fun h10 => ?_)
    · have hm := cv_if_t h10 hm
      obtain rfl := Option.some.inj hm
      refine cv_sub [0, 2] rfl ?_
      exact kx
    · have hm := cv_if_f h10 hm
      refine cv_aload_n (i := 0) (q := 60) 0 C dX6_drawn_59 rfl rfl rfl ?_
      refine cv_bipush (v := 100) (q := 62) C dX6_drawn_60 (by decide) rfl ?_
      obtain ⟨r11, hr11, hm⟩ := cv_bd_s hm
      refine cv_goW (q := 65) C (KX6_draw (l := l) (σ := σ) (D := D) (cy := cy)  q  S (100 : Int32) hr11) (cv_rv (As := [.int (100 : Int32)]) (st := []) (n := 1) (q0 := 0) (ci := 6) C (KX6_draw (l := l) (σ := σ) (D := D) (cy := cy)  q  S (100 : Int32) hr11) rfl rfl gX6_drawn_X6_draw rfl ⟨rfl, rfl⟩ (by decide +kernel) rfl ⟨Nat.le_of_ble_eq_true rfl, Nat.le_of_ble_eq_true rfl⟩ rfl (Nat.le_of_ble_eq_true rfl) dX6_drawn_62 ⟨Nat.zero_le _, Nat.zero_le _⟩) rfl ?_
      refine cv_istore (i := 5) (lv' := [(5, .int r11.1), (0, .ref (q 0)), (1, .int u1), (3, .int u3), (4, .int y4)]) (q := 67) C dX6_drawn_65 (by decide) rfl rfl ?_
      refine cv_aload_n (i := 0) (q := 68) 1 C dX6_drawn_67 rfl rfl rfl ?_
      refine cv_get (q := 71) C iX6_drawn_X6 0 rfl rfl 5 (by decide) (List.mem_of_getElem? (i := 4) rfl) rfl rfl dX6_drawn_68 rfl ?_
      refine cv_bipush (v := 100) (q := 73) C dX6_drawn_71 (by decide) rfl ?_
      refine cv_iload (i := 5) (q := 75) 0 C dX6_drawn_73 rfl rfl ?_
      refine cv_iadd (q := 76) C dX6_drawn_75 rfl ?_
      obtain ⟨g12, hm⟩ := cv_gd_s hm
      refine cv_iald (q := 77) C 5 0 rfl rfl (vp_in_iff.mpr g12) dX6_drawn_76 rfl ?_
      refine cv_iconst (v := 1) (q := 78) C dX6_drawn_77 (by decide) rfl ?_
      obtain ⟨j13, hj13, hm⟩ := cv_bd_s hm
      refine cv_cut (ws' := (wX6 q cy j13)) (pc' := 109) (lv' := [(0, .ref (q 0)), (1, .int u1), (3, .int u3), (4, .int y4)]) (st' := []) ?_ (fun K14 => ?_)
      · obtain ⟨x15, ex15, hm⟩ := cv_lt_s hm
        refine cv_iinc (v := x15) (lv' := [(4, .int x15), (0, .ref (q 0)), (1, .int u1), (3, .int u3)]) (q := 112) 3 C dX6_drawn_109 rfl (by rw [ex15]; rfl) (by decide) rfl rfl ?_
        refine cv_goto (tgt := 53) C dX6_drawn_112 (by decide) ?_
        refine cv_sub [1, 2, 3, 0] rfl ?_
        exact ih x15 j13 hm kx
      · have hm := hj13
        refine cv_icmp_ne (tgt := 91) (q := 81) C dX6_drawn_78 (by decide) rfl (fun h16 => ?_) (fun h16 => ?_)
        · have hm := cv_if_f h16 hm
          refine cv_aload_n (i := 0) (q := 92) 1 C dX6_drawn_91 rfl rfl rfl ?_
          refine cv_get (q := 95) C iX6_drawn_X6 0 rfl rfl 7 (by decide) (List.mem_of_getElem? (i := 5) rfl) rfl rfl dX6_drawn_92 rfl ?_
          refine cv_iconst (v := 1) (q := 96) C dX6_drawn_95 (by decide) rfl ?_
          obtain ⟨g17, hm⟩ := cv_gd_s hm
          refine cv_iald (q := 97) C 7 0 rfl rfl (vp_in_iff.mpr g17) dX6_drawn_96 rfl ?_
          refine cv_bipush (v := 40) (q := 99) C dX6_drawn_97 (by decide) rfl ?_
          refine cv_icmp_ge (tgt := 109) (q := 102) C dX6_drawn_99 (by decide) rfl (fun h18 => ?_) (fun h18 => ?_)
          · have hm := cv_if_t h18 hm
            obtain rfl := Option.some.inj hm
            refine cv_sub [1, 2, 3, 4] rfl ?_
            exact K14
          · have hm := cv_if_f h18 hm
            refine cv_aload_n (i := 0) (q := 103) 1 C dX6_drawn_102 rfl rfl rfl ?_
            refine cv_iconst (v := 1) (q := 104) C dX6_drawn_103 (by decide) rfl ?_
            refine cv_iload (i := 5) (q := 106) 0 C dX6_drawn_104 rfl rfl ?_
            obtain ⟨r19, hr19, hm⟩ := cv_bd_s hm
            refine cv_goW (q := 109) C (KX6_enter (l := l) (σ := σ) (D := D) (cy := cy)  q  r11.2 (1 : Int32) r11.1 hr19) (cv_rv (As := [.int (1 : Int32), .int r11.1]) (st := []) (n := 2) (q0 := 0) (ci := 6) C (KX6_enter (l := l) (σ := σ) (D := D) (cy := cy)  q  r11.2 (1 : Int32) r11.1 hr19) rfl rfl gX6_drawn_X6_enter rfl ⟨rfl, rfl⟩ (by decide +kernel) rfl ⟨Nat.le_of_ble_eq_true rfl, Nat.le_of_ble_eq_true rfl⟩ rfl (Nat.le_of_ble_eq_true rfl) dX6_drawn_106 ⟨Nat.zero_le _, Nat.zero_le _⟩) rfl ?_
            obtain rfl := Option.some.inj hm
            refine cv_sub [1, 2, 3, 4] rfl ?_
            exact K14
        · have hm := cv_if_t h16 hm
          refine cv_aload_n (i := 0) (q := 82) 1 C dX6_drawn_81 rfl rfl rfl ?_
          refine cv_iconst (v := 1) (q := 83) C dX6_drawn_82 (by decide) rfl ?_
          refine cv_iload (i := 5) (q := 85) 0 C dX6_drawn_83 rfl rfl ?_
          obtain ⟨r20, hr20, hm⟩ := cv_bd_s hm
          refine cv_goW (q := 88) C (KX6_leave (l := l) (σ := σ) (D := D) (cy := cy)  q  r11.2 (1 : Int32) r11.1 hr20) (cv_rv (As := [.int (1 : Int32), .int r11.1]) (st := []) (n := 2) (q0 := 0) (ci := 6) C (KX6_leave (l := l) (σ := σ) (D := D) (cy := cy)  q  r11.2 (1 : Int32) r11.1 hr20) rfl rfl gX6_drawn_X6_leave rfl ⟨rfl, rfl⟩ (by decide +kernel) rfl ⟨Nat.le_of_ble_eq_true rfl, Nat.le_of_ble_eq_true rfl⟩ rfl (Nat.le_of_ble_eq_true rfl) dX6_drawn_85 ⟨Nat.zero_le _, Nat.zero_le _⟩) rfl ?_
          refine cv_goto (tgt := 109) C dX6_drawn_88 (by decide) ?_
          obtain rfl := Option.some.inj hm
          refine cv_sub [1, 2, 3, 4] rfl ?_
          exact K14
set_option maxHeartbeats 4000000 in
set_option maxRecDepth 100000 in
theorem KX6_drawn {l : Launch} {σ : Nat → Nat} {D : va_G} {cy : ClassId} (q : Nat → Nat) (S : SX6) (a1 : Int32) (a2 : Int32) (a3 : Int32) {res : Int32 × SX6} (hm : fX6_drawn S a1 a2 a3 = some res) : cv_M l yX6_drawn wsX6_drawn rX6_drawn σ D [(cy, .int)] [.ref (q 0), .int a1, .int a2, .int a3] (wX6 q cy S) (some (.int res.1)) (wX6 q cy res.2) := by
  unfold fX6_drawn at hm
  refine cv_M.of (own := RX6) (by decide +kernel) rfl rfl (lv := [(0, .ref (q 0)), (1, .int a1), (2, .int a2), (3, .int a3)]) rfl (Nat.le_of_ble_eq_true rfl) ?_
  intro p e s m args below meth c A C hr hk
  refine cv_iload_n (i := 1) (q := 1) 1 C dX6_drawn_0 rfl rfl rfl ?_
  refine cv_i2l (q := 2) C dX6_drawn_1 rfl ?_
  refine cv_lconst (v := 1) (q := 3) C dX6_drawn_2 (by decide) rfl ?_
  refine cv_ldc2 (v := 60) (q := 6) C dX6_drawn_3 (List.mem_of_getElem? (i := 1) rfl) rfl ?_
  obtain ⟨r1, hr1, hm⟩ := cv_bd_s hm
  refine cv_goE (q := 9) C (KX6_in (l := l) (σ := σ) (D := D) (cy := cy)     ((a1).toInt64) (1 : Int64) (60 : Int64) hr1) (cv_rs (As := [.long (a1).toInt64, .long (1 : Int64), .long (60 : Int64)]) (st := []) (n := 3) C (KX6_in (l := l) (σ := σ) (D := D) (cy := cy)     ((a1).toInt64) (1 : Int64) (60 : Int64) hr1) gX6_drawn_X6_in rfl ⟨rfl, rfl⟩ (by decide +kernel) rfl ⟨Nat.le_of_ble_eq_true rfl, Nat.le_of_ble_eq_true rfl⟩ rfl (Nat.le_of_ble_eq_true rfl) dX6_drawn_6 ⟨Nat.zero_le _, Nat.zero_le _⟩) rfl ?_
  refine cv_if_eq (tgt := 28) (q := 12) C dX6_drawn_9 (by decide) rfl (fun h2 => ?_) (fun h2 => ?_)
  · have hm := cv_if_t h2 hm
    refine cv_bipush (v := -102) (q := 30) C dX6_drawn_28 (by decide) rfl ?_
    obtain rfl := Option.some.inj hm
    exact cv_iret C hr hk dX6_drawn_30
  · have hm := cv_if_f h2 hm
    refine cv_iload_n (i := 2) (q := 13) 2 C dX6_drawn_12 rfl rfl rfl ?_
    refine cv_if_lt (tgt := 28) (q := 16) C dX6_drawn_13 (by decide) rfl (fun h3 => ?_) (fun h3 => ?_)
    · have hm := cv_if_t h3 hm
      refine cv_bipush (v := -102) (q := 30) C dX6_drawn_28 (by decide) rfl ?_
      obtain rfl := Option.some.inj hm
      exact cv_iret C hr hk dX6_drawn_30
    · have hm := cv_if_f h3 hm
      refine cv_iload_n (i := 3) (q := 17) 3 C dX6_drawn_16 rfl rfl rfl ?_
      refine cv_i2l (q := 18) C dX6_drawn_17 rfl ?_
      refine cv_lconst (v := 0) (q := 19) C dX6_drawn_18 (by decide) rfl ?_
      refine cv_ldc2 (v := 2) (q := 22) C dX6_drawn_19 (List.mem_of_getElem? (i := 2) rfl) rfl ?_
      obtain ⟨r4, hr4, hm⟩ := cv_bd_s hm
      refine cv_goE (q := 25) C (KX6_in (l := l) (σ := σ) (D := D) (cy := cy)     ((a3).toInt64) (0 : Int64) (2 : Int64) hr4) (cv_rs (As := [.long (a3).toInt64, .long (0 : Int64), .long (2 : Int64)]) (st := []) (n := 3) C (KX6_in (l := l) (σ := σ) (D := D) (cy := cy)     ((a3).toInt64) (0 : Int64) (2 : Int64) hr4) gX6_drawn_X6_in rfl ⟨rfl, rfl⟩ (by decide +kernel) rfl ⟨Nat.le_of_ble_eq_true rfl, Nat.le_of_ble_eq_true rfl⟩ rfl (Nat.le_of_ble_eq_true rfl) dX6_drawn_22 ⟨Nat.zero_le _, Nat.zero_le _⟩) rfl ?_
      refine cv_if_ne (tgt := 31) (q := 28) C dX6_drawn_25 (by decide) rfl (fun h5 => ?_) (fun h5 => ?_)
      · have hm := cv_if_f h5 hm
        refine cv_aload_n (i := 0) (q := 32) 0 C dX6_drawn_31 rfl rfl rfl ?_
        obtain ⟨r6, hr6, hm⟩ := cv_bd_s hm
        refine cv_goW (q := 35) C (KX6_lacks (l := l) (σ := σ) (D := D) (cy := cy)  q  S  hr6) (cv_rv (As := []) (st := []) (n := 0) (q0 := 0) (ci := 6) C (KX6_lacks (l := l) (σ := σ) (D := D) (cy := cy)  q  S  hr6) rfl rfl gX6_drawn_X6_lacks rfl ⟨rfl, rfl⟩ (by decide +kernel) rfl ⟨Nat.le_of_ble_eq_true rfl, Nat.le_of_ble_eq_true rfl⟩ rfl (Nat.le_of_ble_eq_true rfl) dX6_drawn_32 ⟨Nat.zero_le _, Nat.zero_le _⟩) rfl ?_
        refine cv_if_eq (tgt := 41) (q := 38) C dX6_drawn_35 (by decide) rfl (fun h7 => ?_) (fun h7 => ?_)
        · have hm := cv_if_t h7 hm
          refine cv_aload_n (i := 0) (q := 42) 0 C dX6_drawn_41 rfl rfl rfl ?_
          refine cv_iload_n (i := 2) (q := 43) 2 C dX6_drawn_42 rfl rfl rfl ?_
          obtain ⟨s8, es8, hm⟩ := cv_lt_s hm
          refine cv_put (q := 46) (ws' := (wX6 q cy s8)) C iX6_drawn_X6 tyX6 tyX6_ok nmX6 0 rfl rfl 30 (by decide) (List.mem_of_getElem? (i := 3) rfl) rfl rfl rfl rfl rfl (Nat.le_of_ble_eq_true rfl) dX6_drawn_43 rfl (by rw [es8]; rfl) ?_
          refine cv_aload_n (i := 0) (q := 47) 0 C dX6_drawn_46 rfl rfl rfl ?_
          obtain ⟨r9, hr9, hm⟩ := cv_bd_s hm
          refine cv_goW (q := 50) C (KX6_begin (l := l) (σ := σ) (D := D) (cy := cy)  q  s8  hr9) (cv_rv (As := []) (st := []) (n := 0) (q0 := 0) (ci := 6) C (KX6_begin (l := l) (σ := σ) (D := D) (cy := cy)  q  s8  hr9) rfl rfl gX6_drawn_X6_begin rfl ⟨rfl, rfl⟩ (by decide +kernel) rfl ⟨Nat.le_of_ble_eq_true rfl, Nat.le_of_ble_eq_true rfl⟩ rfl (Nat.le_of_ble_eq_true rfl) dX6_drawn_47 ⟨Nat.zero_le _, Nat.zero_le _⟩) rfl ?_
          refine cv_iconst (v := 0) (q := 51) C dX6_drawn_50 (by decide) rfl ?_
          refine cv_istore (i := 4) (lv' := [(4, .int (0 : Int32)), (0, .ref (q 0)), (1, .int a1), (2, .int a2), (3, .int a3)]) (q := 53) C dX6_drawn_51 (by decide) rfl rfl ?_
          obtain ⟨j21, hj21, hm⟩ := cv_bd_s hm
          refine cv_cut (ws' := (wX6 q cy j21)) (pc' := 115) (lv' := [(0, .ref (q 0)), (3, .int a3)]) (st' := []) ?_ (fun K22 => ?_)
          · refine cv_iload_n (i := 3) (q := 116) 1 C dX6_drawn_115 rfl rfl rfl ?_
            refine cv_if_ne (tgt := 128) (q := 119) C dX6_drawn_116 (by decide) rfl (fun h23 => ?_) (fun h23 => ?_)
            · have hm := cv_if_f h23 hm
              refine cv_iload_n (i := 3) (q := 129) 1 C dX6_drawn_128 rfl rfl rfl ?_
              refine cv_iconst (v := 1) (q := 130) C dX6_drawn_129 (by decide) rfl ?_
              refine cv_icmp_ne (tgt := 141) (q := 133) C dX6_drawn_130 (by decide) rfl (fun h24 => ?_) (fun h24 => ?_)
              · have hm := cv_if_f h24 hm
                refine cv_aload_n (i := 0) (q := 142) 0 C dX6_drawn_141 rfl rfl rfl ?_
                refine cv_get (q := 145) C iX6_drawn_X6 0 rfl rfl 30 (by decide) (List.mem_of_getElem? (i := 3) rfl) rfl rfl dX6_drawn_142 rfl ?_
                obtain rfl := Option.some.inj hm
                exact cv_iret C hr hk dX6_drawn_145
              · have hm := cv_if_t h24 hm
                refine cv_aload_n (i := 0) (q := 134) 0 C dX6_drawn_133 rfl rfl rfl ?_
                refine cv_iconst (v := 1) (q := 135) C dX6_drawn_134 (by decide) rfl ?_
                obtain ⟨r25, hr25, hm⟩ := cv_bd_s hm
                refine cv_goW (q := 138) C (KX6_tall (l := l) (σ := σ) (D := D) (cy := cy)  q  j21 (1 : Int32) hr25) (cv_rv (As := [.int (1 : Int32)]) (st := []) (n := 1) (q0 := 0) (ci := 6) C (KX6_tall (l := l) (σ := σ) (D := D) (cy := cy)  q  j21 (1 : Int32) hr25) rfl rfl gX6_drawn_X6_tall rfl ⟨rfl, rfl⟩ (by decide +kernel) rfl ⟨Nat.le_of_ble_eq_true rfl, Nat.le_of_ble_eq_true rfl⟩ rfl (Nat.le_of_ble_eq_true rfl) dX6_drawn_135 ⟨Nat.zero_le _, Nat.zero_le _⟩) rfl ?_
                refine cv_goto (tgt := 145) C dX6_drawn_138 (by decide) ?_
                obtain rfl := Option.some.inj hm
                exact cv_iret C hr hk dX6_drawn_145
            · have hm := cv_if_t h23 hm
              refine cv_aload_n (i := 0) (q := 120) 0 C dX6_drawn_119 rfl rfl rfl ?_
              refine cv_get (q := 123) C iX6_drawn_X6 0 rfl rfl 11 (by decide) (List.mem_of_getElem? (i := 6) rfl) rfl rfl dX6_drawn_120 rfl ?_
              refine cv_iconst (v := 1) (q := 124) C dX6_drawn_123 (by decide) rfl ?_
              obtain ⟨g26, hm⟩ := cv_gd_s hm
              refine cv_iald (q := 125) C 10 0 rfl rfl (vp_in_iff.mpr g26) dX6_drawn_124 rfl ?_
              refine cv_goto (tgt := 145) C dX6_drawn_125 (by decide) ?_
              obtain rfl := Option.some.inj hm
              exact cv_iret C hr hk dX6_drawn_145
          · refine cv_sub [1, 2, 4, 0] rfl ?_
            exact vX6_drawn_L53 q a1 a3 C 256 (0 : Int32) r9 hj21 K22
        · have hm := cv_if_f h7 hm
          refine cv_bipush (v := -103) (q := 40) C dX6_drawn_38 (by decide) rfl ?_
          obtain rfl := Option.some.inj hm
          exact cv_iret C hr hk dX6_drawn_40
      · have hm := cv_if_t h5 hm
        refine cv_bipush (v := -102) (q := 30) C dX6_drawn_28 (by decide) rfl ?_
        obtain rfl := Option.some.inj hm
        exact cv_iret C hr hk dX6_drawn_30
def fX6_image (S : SX6) : Option (Int32 × SX6) :=
  cv_bd (fX6_lacks S) fun r1 =>
  if r1 = 0 then
    (
    cv_bd (fX6_copy 200 200 (gX6_left S) (gX6_keptLeft S)) fun r3 =>
    cv_lt (sX6_keptLeft S r3) fun s4 =>
    cv_bd (fX6_copy 200 200 (gX6_right s4) (gX6_keptRight s4)) fun r5 =>
    cv_lt (sX6_keptRight s4 r5) fun s6 =>
    cv_bd (fX6_copy 200 200 (gX6_above s6) (gX6_keptAbove s6)) fun r7 =>
    cv_lt (sX6_keptAbove s6 r7) fun s8 =>
    cv_bd (fX6_copy 200 200 (gX6_there s8) (gX6_keptThere s8)) fun r9 =>
    cv_lt (sX6_keptThere s8 r9) fun s10 =>
    cv_bd (fX6_copy 100 100 (gX6_kinds s10) (gX6_keptKinds s10)) fun r11 =>
    cv_lt (sX6_keptKinds s10 r11) fun s12 =>
    cv_bd (fX6_copy 100 100 (gX6_values s12) (gX6_keptValues s12)) fun r13 =>
    cv_lt (sX6_keptValues s12 r13) fun s14 =>
    cv_bd (fX6_copy 60 60 (gX6_log s14) (gX6_keptLog s14)) fun r15 =>
    cv_lt (sX6_keptLog s14 r15) fun s16 =>
    cv_bd (fX6_copy 18 18 (gX6_sights s16) (gX6_keptSights s16)) fun r17 =>
    cv_lt (sX6_keptSights s16 r17) fun s18 =>
    cv_gd (0 ≤ ((0 : Int32)).toInt ∧ ((0 : Int32)).toInt < 2) <|
    cv_lt (sX6_keptRoot s18 ((gX6_root s18) ((0 : Int32)).toNatClampNeg)) fun s20 =>
    cv_gd (0 ≤ ((0 : Int32)).toInt ∧ ((0 : Int32)).toInt < 2) <|
    cv_lt (sX6_keptMany s20 ((gX6_many s20) ((0 : Int32)).toNatClampNeg)) fun s22 =>
    cv_gd (0 ≤ ((0 : Int32)).toInt ∧ ((0 : Int32)).toInt < 2) <|
    cv_lt (sX6_keptMost s22 ((gX6_most s22) ((0 : Int32)).toNatClampNeg)) fun s24 =>
    cv_gd (0 ≤ ((0 : Int32)).toInt ∧ ((0 : Int32)).toInt < 2) <|
    cv_lt (sX6_keptBuilt s24 ((gX6_built s24) ((0 : Int32)).toNatClampNeg)) fun s26 =>
    cv_gd (0 ≤ ((0 : Int32)).toInt ∧ ((0 : Int32)).toInt < 2) <|
    cv_lt (sX6_keptCost s26 ((gX6_cost s26) ((0 : Int32)).toNatClampNeg)) fun s28 =>
    cv_lt (sX6_keptCredit s28 (gX6_credit s28)) fun s29 =>
    cv_lt (sX6_keptLowest s29 (gX6_lowest s29)) fun s30 =>
    cv_lt (sX6_keptLogMany s30 (gX6_logMany s30)) fun s31 =>
    cv_lt (sX6_keptSeen s31 (gX6_seenMany s31)) fun s32 =>
    cv_lt (sX6_keptShelf s32 (gX6_shelvesRead s32)) fun s33 =>
    cv_gd (0 ≤ ((0 : Int32)).toInt ∧ ((0 : Int32)).toInt < 2) <|
    some (((gX6_many s33) ((0 : Int32)).toNatClampNeg), s33)
    )
  else
    (
    some ((-103 : Int32), S)
    )
abbrev rX6_image : Room := { frames := 1, cells := 0, slots := 0, locals := 22 }
theorem iX6_image_X6 : ∀ w ∈ u_ws RX6 TX6 50, w ∈ wsX6_image := fun w h => List.mem_cons_of_mem _ (List.mem_append_right _ h)
set_option maxHeartbeats 4000000 in
set_option maxRecDepth 100000 in
theorem KX6_image {l : Launch} {σ : Nat → Nat} {D : va_G} {cy : ClassId} (q : Nat → Nat) (S : SX6) {res : Int32 × SX6} (hm : fX6_image S = some res) : cv_M l yX6_image wsX6_image rX6_image σ D [(cy, .int)] [.ref (q 0)] (wX6 q cy S) (some (.int res.1)) (wX6 q cy res.2) := by
  unfold fX6_image at hm
  refine cv_M.of (own := RX6) (by decide +kernel) rfl rfl (lv := [(0, .ref (q 0))]) rfl (Nat.le_of_ble_eq_true rfl) ?_
  intro p e s m args below meth c A C hr hk
  refine cv_aload_n (i := 0) (q := 1) 0 C dX6_image_0 rfl rfl rfl ?_
  obtain ⟨r1, hr1, hm⟩ := cv_bd_s hm
  refine cv_goW (q := 4) C (KX6_lacks (l := l) (σ := σ) (D := D) (cy := cy)  q  S  hr1) (cv_rv (As := []) (st := []) (n := 0) (q0 := 0) (ci := 6) C (KX6_lacks (l := l) (σ := σ) (D := D) (cy := cy)  q  S  hr1) rfl rfl gX6_image_X6_lacks rfl ⟨rfl, rfl⟩ (by decide +kernel) rfl ⟨Nat.le_of_ble_eq_true rfl, Nat.le_of_ble_eq_true rfl⟩ rfl (Nat.le_of_ble_eq_true rfl) dX6_image_1 ⟨Nat.zero_le _, Nat.zero_le _⟩) rfl ?_
  refine cv_if_eq (tgt := 10) (q := 7) C dX6_image_4 (by decide) rfl (fun h2 => ?_) (fun h2 => ?_)
  · have hm := cv_if_t h2 hm
    refine cv_aload_n (i := 0) (q := 11) 0 C dX6_image_10 rfl rfl rfl ?_
    refine cv_get (q := 14) C iX6_image_X6 0 rfl rfl 2 (by decide) (List.mem_of_getElem? (i := 1) rfl) rfl rfl dX6_image_11 rfl ?_
    refine cv_aload_n (i := 0) (q := 15) 0 C dX6_image_14 rfl rfl rfl ?_
    refine cv_get (q := 18) C iX6_image_X6 0 rfl rfl 41 (by decide) (List.mem_of_getElem? (i := 2) rfl) rfl rfl dX6_image_15 rfl ?_
    obtain ⟨r3, hr3, hm⟩ := cv_bd_s hm
    obtain ⟨s4, es4, hm⟩ := cv_lt_s hm
    refine cv_go (q := 21) (ws' := (wX6 q cy s4)) C (KX6_copy (l := l) (σ := σ) (D := D) (cy := cy)  (q 2) (q 19) 200 200 (gX6_left S) (gX6_keptLeft S)  hr3) (cv_rs (As := [.ref (q 2), .ref (q 19)]) (st := []) (n := 2) C (KX6_copy (l := l) (σ := σ) (D := D) (cy := cy)  (q 2) (q 19) 200 200 (gX6_left S) (gX6_keptLeft S)  hr3) gX6_image_X6_copy rfl ⟨rfl, rfl⟩ (by decide +kernel) rfl ⟨Nat.le_of_ble_eq_true rfl, Nat.le_of_ble_eq_true rfl⟩ rfl (Nat.le_of_ble_eq_true rfl) dX6_image_18 ⟨Nat.zero_le _, Nat.zero_le _⟩) [2, 19] [0, 1, 3, 4, 5, 6, 7, 8, 9, 10, 11, 12, 13, 14, 15, 16, 17, 18, 20, 21, 22, 23, 24, 25, 26] rfl (wr := cv_pk (wX6 q cy S) [0, 1, 3, 4, 5, 6, 7, 8, 9, 10, 11, 12, 13, 14, 15, 16, 17, 18, 20, 21, 22, 23, 24, 25, 26]) rfl (by decide) (by decide) (by decide) [0, 1, 25, 2, 3, 4, 5, 6, 7, 8, 9, 10, 11, 12, 13, 14, 15, 16, 17, 26, 18, 19, 20, 21, 22, 23, 24] (by decide) (by rw [es4]; rfl) rfl ?_
    refine cv_aload_n (i := 0) (q := 22) 0 C dX6_image_21 rfl rfl rfl ?_
    refine cv_get (q := 25) C iX6_image_X6 0 rfl rfl 3 (by decide) (List.mem_of_getElem? (i := 3) rfl) rfl rfl dX6_image_22 rfl ?_
    refine cv_aload_n (i := 0) (q := 26) 0 C dX6_image_25 rfl rfl rfl ?_
    refine cv_get (q := 29) C iX6_image_X6 0 rfl rfl 42 (by decide) (List.mem_of_getElem? (i := 4) rfl) rfl rfl dX6_image_26 rfl ?_
    obtain ⟨r5, hr5, hm⟩ := cv_bd_s hm
    obtain ⟨s6, es6, hm⟩ := cv_lt_s hm
    refine cv_go (q := 32) (ws' := (wX6 q cy s6)) C (KX6_copy (l := l) (σ := σ) (D := D) (cy := cy)  (q 3) (q 20) 200 200 (gX6_right s4) (gX6_keptRight s4)  hr5) (cv_rs (As := [.ref (q 3), .ref (q 20)]) (st := []) (n := 2) C (KX6_copy (l := l) (σ := σ) (D := D) (cy := cy)  (q 3) (q 20) 200 200 (gX6_right s4) (gX6_keptRight s4)  hr5) gX6_image_X6_copy rfl ⟨rfl, rfl⟩ (by decide +kernel) rfl ⟨Nat.le_of_ble_eq_true rfl, Nat.le_of_ble_eq_true rfl⟩ rfl (Nat.le_of_ble_eq_true rfl) dX6_image_29 ⟨Nat.zero_le _, Nat.zero_le _⟩) [3, 20] [0, 1, 2, 4, 5, 6, 7, 8, 9, 10, 11, 12, 13, 14, 15, 16, 17, 18, 19, 21, 22, 23, 24, 25, 26] rfl (wr := cv_pk (wX6 q cy s4) [0, 1, 2, 4, 5, 6, 7, 8, 9, 10, 11, 12, 13, 14, 15, 16, 17, 18, 19, 21, 22, 23, 24, 25, 26]) rfl (by decide) (by decide) (by decide) [0, 1, 2, 25, 3, 4, 5, 6, 7, 8, 9, 10, 11, 12, 13, 14, 15, 16, 17, 18, 26, 19, 20, 21, 22, 23, 24] (by decide) (by rw [es6]; rfl) rfl ?_
    refine cv_aload_n (i := 0) (q := 33) 0 C dX6_image_32 rfl rfl rfl ?_
    refine cv_get (q := 36) C iX6_image_X6 0 rfl rfl 4 (by decide) (List.mem_of_getElem? (i := 5) rfl) rfl rfl dX6_image_33 rfl ?_
    refine cv_aload_n (i := 0) (q := 37) 0 C dX6_image_36 rfl rfl rfl ?_
    refine cv_get (q := 40) C iX6_image_X6 0 rfl rfl 43 (by decide) (List.mem_of_getElem? (i := 6) rfl) rfl rfl dX6_image_37 rfl ?_
    obtain ⟨r7, hr7, hm⟩ := cv_bd_s hm
    obtain ⟨s8, es8, hm⟩ := cv_lt_s hm
    refine cv_go (q := 43) (ws' := (wX6 q cy s8)) C (KX6_copy (l := l) (σ := σ) (D := D) (cy := cy)  (q 4) (q 21) 200 200 (gX6_above s6) (gX6_keptAbove s6)  hr7) (cv_rs (As := [.ref (q 4), .ref (q 21)]) (st := []) (n := 2) C (KX6_copy (l := l) (σ := σ) (D := D) (cy := cy)  (q 4) (q 21) 200 200 (gX6_above s6) (gX6_keptAbove s6)  hr7) gX6_image_X6_copy rfl ⟨rfl, rfl⟩ (by decide +kernel) rfl ⟨Nat.le_of_ble_eq_true rfl, Nat.le_of_ble_eq_true rfl⟩ rfl (Nat.le_of_ble_eq_true rfl) dX6_image_40 ⟨Nat.zero_le _, Nat.zero_le _⟩) [4, 21] [0, 1, 2, 3, 5, 6, 7, 8, 9, 10, 11, 12, 13, 14, 15, 16, 17, 18, 19, 20, 22, 23, 24, 25, 26] rfl (wr := cv_pk (wX6 q cy s6) [0, 1, 2, 3, 5, 6, 7, 8, 9, 10, 11, 12, 13, 14, 15, 16, 17, 18, 19, 20, 22, 23, 24, 25, 26]) rfl (by decide) (by decide) (by decide) [0, 1, 2, 3, 25, 4, 5, 6, 7, 8, 9, 10, 11, 12, 13, 14, 15, 16, 17, 18, 19, 26, 20, 21, 22, 23, 24] (by decide) (by rw [es8]; rfl) rfl ?_
    refine cv_aload_n (i := 0) (q := 44) 0 C dX6_image_43 rfl rfl rfl ?_
    refine cv_get (q := 47) C iX6_image_X6 0 rfl rfl 5 (by decide) (List.mem_of_getElem? (i := 7) rfl) rfl rfl dX6_image_44 rfl ?_
    refine cv_aload_n (i := 0) (q := 48) 0 C dX6_image_47 rfl rfl rfl ?_
    refine cv_get (q := 51) C iX6_image_X6 0 rfl rfl 44 (by decide) (List.mem_of_getElem? (i := 8) rfl) rfl rfl dX6_image_48 rfl ?_
    obtain ⟨r9, hr9, hm⟩ := cv_bd_s hm
    obtain ⟨s10, es10, hm⟩ := cv_lt_s hm
    refine cv_go (q := 54) (ws' := (wX6 q cy s10)) C (KX6_copy (l := l) (σ := σ) (D := D) (cy := cy)  (q 5) (q 22) 200 200 (gX6_there s8) (gX6_keptThere s8)  hr9) (cv_rs (As := [.ref (q 5), .ref (q 22)]) (st := []) (n := 2) C (KX6_copy (l := l) (σ := σ) (D := D) (cy := cy)  (q 5) (q 22) 200 200 (gX6_there s8) (gX6_keptThere s8)  hr9) gX6_image_X6_copy rfl ⟨rfl, rfl⟩ (by decide +kernel) rfl ⟨Nat.le_of_ble_eq_true rfl, Nat.le_of_ble_eq_true rfl⟩ rfl (Nat.le_of_ble_eq_true rfl) dX6_image_51 ⟨Nat.zero_le _, Nat.zero_le _⟩) [5, 22] [0, 1, 2, 3, 4, 6, 7, 8, 9, 10, 11, 12, 13, 14, 15, 16, 17, 18, 19, 20, 21, 23, 24, 25, 26] rfl (wr := cv_pk (wX6 q cy s8) [0, 1, 2, 3, 4, 6, 7, 8, 9, 10, 11, 12, 13, 14, 15, 16, 17, 18, 19, 20, 21, 23, 24, 25, 26]) rfl (by decide) (by decide) (by decide) [0, 1, 2, 3, 4, 25, 5, 6, 7, 8, 9, 10, 11, 12, 13, 14, 15, 16, 17, 18, 19, 20, 26, 21, 22, 23, 24] (by decide) (by rw [es10]; rfl) rfl ?_
    refine cv_aload_n (i := 0) (q := 55) 0 C dX6_image_54 rfl rfl rfl ?_
    refine cv_get (q := 58) C iX6_image_X6 0 rfl rfl 12 (by decide) (List.mem_of_getElem? (i := 9) rfl) rfl rfl dX6_image_55 rfl ?_
    refine cv_aload_n (i := 0) (q := 59) 0 C dX6_image_58 rfl rfl rfl ?_
    refine cv_get (q := 62) C iX6_image_X6 0 rfl rfl 45 (by decide) (List.mem_of_getElem? (i := 10) rfl) rfl rfl dX6_image_59 rfl ?_
    obtain ⟨r11, hr11, hm⟩ := cv_bd_s hm
    obtain ⟨s12, es12, hm⟩ := cv_lt_s hm
    refine cv_go (q := 65) (ws' := (wX6 q cy s12)) C (KX6_copy (l := l) (σ := σ) (D := D) (cy := cy)  (q 11) (q 23) 100 100 (gX6_kinds s10) (gX6_keptKinds s10)  hr11) (cv_rs (As := [.ref (q 11), .ref (q 23)]) (st := []) (n := 2) C (KX6_copy (l := l) (σ := σ) (D := D) (cy := cy)  (q 11) (q 23) 100 100 (gX6_kinds s10) (gX6_keptKinds s10)  hr11) gX6_image_X6_copy rfl ⟨rfl, rfl⟩ (by decide +kernel) rfl ⟨Nat.le_of_ble_eq_true rfl, Nat.le_of_ble_eq_true rfl⟩ rfl (Nat.le_of_ble_eq_true rfl) dX6_image_62 ⟨Nat.zero_le _, Nat.zero_le _⟩) [11, 23] [0, 1, 2, 3, 4, 5, 6, 7, 8, 9, 10, 12, 13, 14, 15, 16, 17, 18, 19, 20, 21, 22, 24, 25, 26] rfl (wr := cv_pk (wX6 q cy s10) [0, 1, 2, 3, 4, 5, 6, 7, 8, 9, 10, 12, 13, 14, 15, 16, 17, 18, 19, 20, 21, 22, 24, 25, 26]) rfl (by decide) (by decide) (by decide) [0, 1, 2, 3, 4, 5, 6, 7, 8, 9, 10, 25, 11, 12, 13, 14, 15, 16, 17, 18, 19, 20, 21, 26, 22, 23, 24] (by decide) (by rw [es12]; rfl) rfl ?_
    refine cv_aload_n (i := 0) (q := 66) 0 C dX6_image_65 rfl rfl rfl ?_
    refine cv_get (q := 69) C iX6_image_X6 0 rfl rfl 13 (by decide) (List.mem_of_getElem? (i := 11) rfl) rfl rfl dX6_image_66 rfl ?_
    refine cv_aload_n (i := 0) (q := 70) 0 C dX6_image_69 rfl rfl rfl ?_
    refine cv_get (q := 73) C iX6_image_X6 0 rfl rfl 46 (by decide) (List.mem_of_getElem? (i := 12) rfl) rfl rfl dX6_image_70 rfl ?_
    obtain ⟨r13, hr13, hm⟩ := cv_bd_s hm
    obtain ⟨s14, es14, hm⟩ := cv_lt_s hm
    refine cv_go (q := 76) (ws' := (wX6 q cy s14)) C (KX6_copy (l := l) (σ := σ) (D := D) (cy := cy)  (q 12) (q 24) 100 100 (gX6_values s12) (gX6_keptValues s12)  hr13) (cv_rs (As := [.ref (q 12), .ref (q 24)]) (st := []) (n := 2) C (KX6_copy (l := l) (σ := σ) (D := D) (cy := cy)  (q 12) (q 24) 100 100 (gX6_values s12) (gX6_keptValues s12)  hr13) gX6_image_X6_copy rfl ⟨rfl, rfl⟩ (by decide +kernel) rfl ⟨Nat.le_of_ble_eq_true rfl, Nat.le_of_ble_eq_true rfl⟩ rfl (Nat.le_of_ble_eq_true rfl) dX6_image_73 ⟨Nat.zero_le _, Nat.zero_le _⟩) [12, 24] [0, 1, 2, 3, 4, 5, 6, 7, 8, 9, 10, 11, 13, 14, 15, 16, 17, 18, 19, 20, 21, 22, 23, 25, 26] rfl (wr := cv_pk (wX6 q cy s12) [0, 1, 2, 3, 4, 5, 6, 7, 8, 9, 10, 11, 13, 14, 15, 16, 17, 18, 19, 20, 21, 22, 23, 25, 26]) rfl (by decide) (by decide) (by decide) [0, 1, 2, 3, 4, 5, 6, 7, 8, 9, 10, 11, 25, 12, 13, 14, 15, 16, 17, 18, 19, 20, 21, 22, 26, 23, 24] (by decide) (by rw [es14]; rfl) rfl ?_
    refine cv_aload_n (i := 0) (q := 77) 0 C dX6_image_76 rfl rfl rfl ?_
    refine cv_get (q := 80) C iX6_image_X6 0 rfl rfl 21 (by decide) (List.mem_of_getElem? (i := 13) rfl) rfl rfl dX6_image_77 rfl ?_
    refine cv_aload_n (i := 0) (q := 81) 0 C dX6_image_80 rfl rfl rfl ?_
    refine cv_get (q := 84) C iX6_image_X6 0 rfl rfl 47 (by decide) (List.mem_of_getElem? (i := 14) rfl) rfl rfl dX6_image_81 rfl ?_
    obtain ⟨r15, hr15, hm⟩ := cv_bd_s hm
    obtain ⟨s16, es16, hm⟩ := cv_lt_s hm
    refine cv_go (q := 87) (ws' := (wX6 q cy s16)) C (KX6_copy (l := l) (σ := σ) (D := D) (cy := cy)  (q 13) (q 25) 60 60 (gX6_log s14) (gX6_keptLog s14)  hr15) (cv_rs (As := [.ref (q 13), .ref (q 25)]) (st := []) (n := 2) C (KX6_copy (l := l) (σ := σ) (D := D) (cy := cy)  (q 13) (q 25) 60 60 (gX6_log s14) (gX6_keptLog s14)  hr15) gX6_image_X6_copy rfl ⟨rfl, rfl⟩ (by decide +kernel) rfl ⟨Nat.le_of_ble_eq_true rfl, Nat.le_of_ble_eq_true rfl⟩ rfl (Nat.le_of_ble_eq_true rfl) dX6_image_84 ⟨Nat.zero_le _, Nat.zero_le _⟩) [13, 25] [0, 1, 2, 3, 4, 5, 6, 7, 8, 9, 10, 11, 12, 14, 15, 16, 17, 18, 19, 20, 21, 22, 23, 24, 26] rfl (wr := cv_pk (wX6 q cy s14) [0, 1, 2, 3, 4, 5, 6, 7, 8, 9, 10, 11, 12, 14, 15, 16, 17, 18, 19, 20, 21, 22, 23, 24, 26]) rfl (by decide) (by decide) (by decide) [0, 1, 2, 3, 4, 5, 6, 7, 8, 9, 10, 11, 12, 25, 13, 14, 15, 16, 17, 18, 19, 20, 21, 22, 23, 26, 24] (by decide) (by rw [es16]; rfl) rfl ?_
    refine cv_aload_n (i := 0) (q := 88) 0 C dX6_image_87 rfl rfl rfl ?_
    refine cv_get (q := 91) C iX6_image_X6 0 rfl rfl 29 (by decide) (List.mem_of_getElem? (i := 15) rfl) rfl rfl dX6_image_88 rfl ?_
    refine cv_aload_n (i := 0) (q := 92) 0 C dX6_image_91 rfl rfl rfl ?_
    refine cv_get (q := 95) C iX6_image_X6 0 rfl rfl 48 (by decide) (List.mem_of_getElem? (i := 16) rfl) rfl rfl dX6_image_92 rfl ?_
    obtain ⟨r17, hr17, hm⟩ := cv_bd_s hm
    obtain ⟨s18, es18, hm⟩ := cv_lt_s hm
    refine cv_go (q := 98) (ws' := (wX6 q cy s18)) C (KX6_copy (l := l) (σ := σ) (D := D) (cy := cy)  (q 18) (q 26) 18 18 (gX6_sights s16) (gX6_keptSights s16)  hr17) (cv_rs (As := [.ref (q 18), .ref (q 26)]) (st := []) (n := 2) C (KX6_copy (l := l) (σ := σ) (D := D) (cy := cy)  (q 18) (q 26) 18 18 (gX6_sights s16) (gX6_keptSights s16)  hr17) gX6_image_X6_copy rfl ⟨rfl, rfl⟩ (by decide +kernel) rfl ⟨Nat.le_of_ble_eq_true rfl, Nat.le_of_ble_eq_true rfl⟩ rfl (Nat.le_of_ble_eq_true rfl) dX6_image_95 ⟨Nat.zero_le _, Nat.zero_le _⟩) [18, 26] [0, 1, 2, 3, 4, 5, 6, 7, 8, 9, 10, 11, 12, 13, 14, 15, 16, 17, 19, 20, 21, 22, 23, 24, 25] rfl (wr := cv_pk (wX6 q cy s16) [0, 1, 2, 3, 4, 5, 6, 7, 8, 9, 10, 11, 12, 13, 14, 15, 16, 17, 19, 20, 21, 22, 23, 24, 25]) rfl (by decide) (by decide) (by decide) [0, 1, 2, 3, 4, 5, 6, 7, 8, 9, 10, 11, 12, 13, 14, 15, 16, 17, 25, 18, 19, 20, 21, 22, 23, 24, 26] (by decide) (by rw [es18]; rfl) rfl ?_
    refine cv_aload_n (i := 0) (q := 99) 0 C dX6_image_98 rfl rfl rfl ?_
    refine cv_aload_n (i := 0) (q := 100) 0 C dX6_image_99 rfl rfl rfl ?_
    refine cv_get (q := 103) C iX6_image_X6 0 rfl rfl 6 (by decide) (List.mem_of_getElem? (i := 17) rfl) rfl rfl dX6_image_100 rfl ?_
    refine cv_iconst (v := 0) (q := 104) C dX6_image_103 (by decide) rfl ?_
    obtain ⟨g19, hm⟩ := cv_gd_s hm
    refine cv_iald (q := 105) C 6 0 rfl rfl (vp_in_iff.mpr g19) dX6_image_104 rfl ?_
    obtain ⟨s20, es20, hm⟩ := cv_lt_s hm
    refine cv_put (q := 108) (ws' := (wX6 q cy s20)) C iX6_image_X6 tyX6 tyX6_ok nmX6 0 rfl rfl 32 (by decide) (List.mem_of_getElem? (i := 18) rfl) rfl rfl rfl rfl rfl (Nat.le_of_ble_eq_true rfl) dX6_image_105 rfl (by rw [es20]; rfl) ?_
    refine cv_aload_n (i := 0) (q := 109) 0 C dX6_image_108 rfl rfl rfl ?_
    refine cv_aload_n (i := 0) (q := 110) 0 C dX6_image_109 rfl rfl rfl ?_
    refine cv_get (q := 113) C iX6_image_X6 0 rfl rfl 7 (by decide) (List.mem_of_getElem? (i := 19) rfl) rfl rfl dX6_image_110 rfl ?_
    refine cv_iconst (v := 0) (q := 114) C dX6_image_113 (by decide) rfl ?_
    obtain ⟨g21, hm⟩ := cv_gd_s hm
    refine cv_iald (q := 115) C 7 0 rfl rfl (vp_in_iff.mpr g21) dX6_image_114 rfl ?_
    obtain ⟨s22, es22, hm⟩ := cv_lt_s hm
    refine cv_put (q := 118) (ws' := (wX6 q cy s22)) C iX6_image_X6 tyX6 tyX6_ok nmX6 0 rfl rfl 33 (by decide) (List.mem_of_getElem? (i := 20) rfl) rfl rfl rfl rfl rfl (Nat.le_of_ble_eq_true rfl) dX6_image_115 rfl (by rw [es22]; rfl) ?_
    refine cv_aload_n (i := 0) (q := 119) 0 C dX6_image_118 rfl rfl rfl ?_
    refine cv_aload_n (i := 0) (q := 120) 0 C dX6_image_119 rfl rfl rfl ?_
    refine cv_get (q := 123) C iX6_image_X6 0 rfl rfl 8 (by decide) (List.mem_of_getElem? (i := 21) rfl) rfl rfl dX6_image_120 rfl ?_
    refine cv_iconst (v := 0) (q := 124) C dX6_image_123 (by decide) rfl ?_
    obtain ⟨g23, hm⟩ := cv_gd_s hm
    refine cv_iald (q := 125) C 8 0 rfl rfl (vp_in_iff.mpr g23) dX6_image_124 rfl ?_
    obtain ⟨s24, es24, hm⟩ := cv_lt_s hm
    refine cv_put (q := 128) (ws' := (wX6 q cy s24)) C iX6_image_X6 tyX6 tyX6_ok nmX6 0 rfl rfl 34 (by decide) (List.mem_of_getElem? (i := 22) rfl) rfl rfl rfl rfl rfl (Nat.le_of_ble_eq_true rfl) dX6_image_125 rfl (by rw [es24]; rfl) ?_
    refine cv_aload_n (i := 0) (q := 129) 0 C dX6_image_128 rfl rfl rfl ?_
    refine cv_aload_n (i := 0) (q := 130) 0 C dX6_image_129 rfl rfl rfl ?_
    refine cv_get (q := 133) C iX6_image_X6 0 rfl rfl 10 (by decide) (List.mem_of_getElem? (i := 23) rfl) rfl rfl dX6_image_130 rfl ?_
    refine cv_iconst (v := 0) (q := 134) C dX6_image_133 (by decide) rfl ?_
    obtain ⟨g25, hm⟩ := cv_gd_s hm
    refine cv_iald (q := 135) C 9 0 rfl rfl (vp_in_iff.mpr g25) dX6_image_134 rfl ?_
    obtain ⟨s26, es26, hm⟩ := cv_lt_s hm
    refine cv_put (q := 138) (ws' := (wX6 q cy s26)) C iX6_image_X6 tyX6 tyX6_ok nmX6 0 rfl rfl 35 (by decide) (List.mem_of_getElem? (i := 24) rfl) rfl rfl rfl rfl rfl (Nat.le_of_ble_eq_true rfl) dX6_image_135 rfl (by rw [es26]; rfl) ?_
    refine cv_aload_n (i := 0) (q := 139) 0 C dX6_image_138 rfl rfl rfl ?_
    refine cv_aload_n (i := 0) (q := 140) 0 C dX6_image_139 rfl rfl rfl ?_
    refine cv_get (q := 143) C iX6_image_X6 0 rfl rfl 11 (by decide) (List.mem_of_getElem? (i := 25) rfl) rfl rfl dX6_image_140 rfl ?_
    refine cv_iconst (v := 0) (q := 144) C dX6_image_143 (by decide) rfl ?_
    obtain ⟨g27, hm⟩ := cv_gd_s hm
    refine cv_iald (q := 145) C 10 0 rfl rfl (vp_in_iff.mpr g27) dX6_image_144 rfl ?_
    obtain ⟨s28, es28, hm⟩ := cv_lt_s hm
    refine cv_put (q := 148) (ws' := (wX6 q cy s28)) C iX6_image_X6 tyX6 tyX6_ok nmX6 0 rfl rfl 36 (by decide) (List.mem_of_getElem? (i := 26) rfl) rfl rfl rfl rfl rfl (Nat.le_of_ble_eq_true rfl) dX6_image_145 rfl (by rw [es28]; rfl) ?_
    refine cv_aload_n (i := 0) (q := 149) 0 C dX6_image_148 rfl rfl rfl ?_
    refine cv_aload_n (i := 0) (q := 150) 0 C dX6_image_149 rfl rfl rfl ?_
    refine cv_get (q := 153) C iX6_image_X6 0 rfl rfl 19 (by decide) (List.mem_of_getElem? (i := 27) rfl) rfl rfl dX6_image_150 rfl ?_
    obtain ⟨s29, es29, hm⟩ := cv_lt_s hm
    refine cv_put (q := 156) (ws' := (wX6 q cy s29)) C iX6_image_X6 tyX6 tyX6_ok nmX6 0 rfl rfl 37 (by decide) (List.mem_of_getElem? (i := 28) rfl) rfl rfl rfl rfl rfl (Nat.le_of_ble_eq_true rfl) dX6_image_153 rfl (by rw [es29]; rfl) ?_
    refine cv_aload_n (i := 0) (q := 157) 0 C dX6_image_156 rfl rfl rfl ?_
    refine cv_aload_n (i := 0) (q := 158) 0 C dX6_image_157 rfl rfl rfl ?_
    refine cv_get (q := 161) C iX6_image_X6 0 rfl rfl 20 (by decide) (List.mem_of_getElem? (i := 29) rfl) rfl rfl dX6_image_158 rfl ?_
    obtain ⟨s30, es30, hm⟩ := cv_lt_s hm
    refine cv_put (q := 164) (ws' := (wX6 q cy s30)) C iX6_image_X6 tyX6 tyX6_ok nmX6 0 rfl rfl 38 (by decide) (List.mem_of_getElem? (i := 30) rfl) rfl rfl rfl rfl rfl (Nat.le_of_ble_eq_true rfl) dX6_image_161 rfl (by rw [es30]; rfl) ?_
    refine cv_aload_n (i := 0) (q := 165) 0 C dX6_image_164 rfl rfl rfl ?_
    refine cv_aload_n (i := 0) (q := 166) 0 C dX6_image_165 rfl rfl rfl ?_
    refine cv_get (q := 169) C iX6_image_X6 0 rfl rfl 22 (by decide) (List.mem_of_getElem? (i := 31) rfl) rfl rfl dX6_image_166 rfl ?_
    obtain ⟨s31, es31, hm⟩ := cv_lt_s hm
    refine cv_put (q := 172) (ws' := (wX6 q cy s31)) C iX6_image_X6 tyX6 tyX6_ok nmX6 0 rfl rfl 39 (by decide) (List.mem_of_getElem? (i := 32) rfl) rfl rfl rfl rfl rfl (Nat.le_of_ble_eq_true rfl) dX6_image_169 rfl (by rw [es31]; rfl) ?_
    refine cv_aload_n (i := 0) (q := 173) 0 C dX6_image_172 rfl rfl rfl ?_
    refine cv_aload_n (i := 0) (q := 174) 0 C dX6_image_173 rfl rfl rfl ?_
    refine cv_get (q := 177) C iX6_image_X6 0 rfl rfl 28 (by decide) (List.mem_of_getElem? (i := 33) rfl) rfl rfl dX6_image_174 rfl ?_
    obtain ⟨s32, es32, hm⟩ := cv_lt_s hm
    refine cv_put (q := 180) (ws' := (wX6 q cy s32)) C iX6_image_X6 tyX6 tyX6_ok nmX6 0 rfl rfl 40 (by decide) (List.mem_of_getElem? (i := 34) rfl) rfl rfl rfl rfl rfl (Nat.le_of_ble_eq_true rfl) dX6_image_177 rfl (by rw [es32]; rfl) ?_
    refine cv_aload_n (i := 0) (q := 181) 0 C dX6_image_180 rfl rfl rfl ?_
    refine cv_aload_n (i := 0) (q := 182) 0 C dX6_image_181 rfl rfl rfl ?_
    refine cv_get (q := 185) C iX6_image_X6 0 rfl rfl 23 (by decide) (List.mem_of_getElem? (i := 35) rfl) rfl rfl dX6_image_182 rfl ?_
    obtain ⟨s33, es33, hm⟩ := cv_lt_s hm
    refine cv_put (q := 188) (ws' := (wX6 q cy s33)) C iX6_image_X6 tyX6 tyX6_ok nmX6 0 rfl rfl 31 (by decide) (List.mem_of_getElem? (i := 36) rfl) rfl rfl rfl rfl rfl (Nat.le_of_ble_eq_true rfl) dX6_image_185 rfl (by rw [es33]; rfl) ?_
    refine cv_aload_n (i := 0) (q := 189) 0 C dX6_image_188 rfl rfl rfl ?_
    refine cv_get (q := 192) C iX6_image_X6 0 rfl rfl 7 (by decide) (List.mem_of_getElem? (i := 19) rfl) rfl rfl dX6_image_189 rfl ?_
    refine cv_iconst (v := 0) (q := 193) C dX6_image_192 (by decide) rfl ?_
    obtain ⟨g34, hm⟩ := cv_gd_s hm
    refine cv_iald (q := 194) C 7 0 rfl rfl (vp_in_iff.mpr g34) dX6_image_193 rfl ?_
    obtain rfl := Option.some.inj hm
    exact cv_iret C hr hk dX6_image_194
  · have hm := cv_if_f h2 hm
    refine cv_bipush (v := -103) (q := 9) C dX6_image_7 (by decide) rfl ?_
    obtain rfl := Option.some.inj hm
    exact cv_iret C hr hk dX6_image_9
