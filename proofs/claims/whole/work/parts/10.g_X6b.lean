def fX6_tall_L4 (S : SX6) (u1 : Int32) : Nat → Int32 → Int32 → Option (Int32)
  | 0, _, _ => none
  | n + 1, y2, y3 =>
    if (100 : Int32) ≤ y3 then
      (
      some y2
      )
    else
      (
      cv_gd (0 ≤ ((((100 : Int32) * u1) + y3)).toInt ∧ ((((100 : Int32) * u1) + y3)).toInt < 200) <|
      cv_bd (
        if ((gX6_there S) ((((100 : Int32) * u1) + y3)).toNatClampNeg) = (1 : Int32) then
          (
          cv_bd (fX6_depth S u1 y3) fun r10 =>
          some r10
          )
        else
          (
          some (-1 : Int32)
          )
      ) fun j3 =>
      cv_bd (
        if j3 ≤ y2 then
          (
          some y2
          )
        else
          (
          some j3
          )
      ) fun j5 =>
      cv_lt (y3 + (1 : Int32)) fun x7 =>
      fX6_tall_L4 S u1 n j5 x7
      )
def fX6_tall (S : SX6) (a1 : Int32) : Option (Int32) :=
  cv_bd (fX6_tall_L4 S a1 256 (-1 : Int32) (0 : Int32)) fun j11 =>
  some j11
abbrev rX6_tall : Room := { frames := 1, cells := 0, slots := 0, locals := 24 }
theorem iX6_tall_X6 : ∀ w ∈ u_ws RX6 TX6 50, w ∈ wsX6_tall := fun w h => List.mem_cons_of_mem _ (List.mem_append_right _ h)
set_option maxHeartbeats 4000000 in
set_option maxRecDepth 100000 in
theorem vX6_tall_L4 {p : Program} {l : Launch} {e : Env} {s : State} {m : MethodId} {args : Array Value} {below : List Frame} {meth : Method} {c : Code} {σ : Nat → Nat} {D : va_G} {A : Nat → Prop} {cy : ClassId} (q : Nat → Nat) (S : SX6) (u1 : Int32) (C : cv_C p s m args c cX6_tall 5 RX6 wsX6_tall σ D [(cy, .int)] A) {Q : State → Prop} {j : Int32} : ∀ (n : Nat) (y2 : Int32) (y3 : Int32), fX6_tall_L4 S u1 n y2 y3 = some j → cv_V p l e rX6_tall s m args below meth c 5 D A Q 0 0 (wX6 q cy S) 56 [(2, .int j)] [] → cv_V p l e rX6_tall s m args below meth c 5 D A Q 0 0 (wX6 q cy S) 4 [(0, .ref (q 0)), (1, .int u1), (2, .int y2), (3, .int y3)] [] := by
  intro n
  induction n with
  | zero => intro y2 y3 hm kx; cases hm
  | succ n ih =>
    intro y2 y3 hm kx
    have hm : fX6_tall_L4 S u1 (n + 1) y2 y3 = some j := hm
    unfold fX6_tall_L4 at hm
    refine cv_iload_n (i := 3) (q := 5) 3 C dX6_tall_4 rfl rfl rfl ?_
    refine cv_bipush (v := 100) (q := 7) C dX6_tall_5 (by decide) rfl ?_
    refine cv_icmp_ge (tgt := 56) (q := 10) C dX6_tall_7 (by decide) rfl (fun h1 => ?_) (fun h1 => ?_)
    · have hm := cv_if_t h1 hm
      obtain rfl := Option.some.inj hm
      refine cv_sub [2] rfl ?_
      exact kx
    · have hm := cv_if_f h1 hm
      refine cv_aload_n (i := 0) (q := 11) 0 C dX6_tall_10 rfl rfl rfl ?_
      refine cv_get (q := 14) C iX6_tall_X6 0 rfl rfl 5 (by decide) (List.mem_of_getElem? (i := 1) rfl) rfl rfl dX6_tall_11 rfl ?_
      refine cv_bipush (v := 100) (q := 16) C dX6_tall_14 (by decide) rfl ?_
      refine cv_iload_n (i := 1) (q := 17) 1 C dX6_tall_16 rfl rfl rfl ?_
      refine cv_imul (q := 18) C dX6_tall_17 rfl ?_
      refine cv_iload_n (i := 3) (q := 19) 3 C dX6_tall_18 rfl rfl rfl ?_
      refine cv_iadd (q := 20) C dX6_tall_19 rfl ?_
      obtain ⟨g2, hm⟩ := cv_gd_s hm
      refine cv_iald (q := 21) C 5 0 rfl rfl (vp_in_iff.mpr g2) dX6_tall_20 rfl ?_
      refine cv_iconst (v := 1) (q := 22) C dX6_tall_21 (by decide) rfl ?_
      obtain ⟨j3, hj3, hm⟩ := cv_bd_s hm
      refine cv_cut (ws' := (wX6 q cy S)) (pc' := 35) (lv' := [(0, .ref (q 0)), (1, .int u1), (2, .int y2), (3, .int y3)]) (st' := [.int j3]) ?_ (fun K4 => ?_)
      · refine cv_istore (i := 4) (lv' := [(4, .int j3), (0, .ref (q 0)), (1, .int u1), (2, .int y2), (3, .int y3)]) (q := 37) C dX6_tall_35 (by decide) rfl rfl ?_
        refine cv_iload (i := 4) (q := 39) 0 C dX6_tall_37 rfl rfl ?_
        refine cv_iload_n (i := 2) (q := 40) 3 C dX6_tall_39 rfl rfl rfl ?_
        obtain ⟨j5, hj5, hm⟩ := cv_bd_s hm
        refine cv_cut (ws' := (wX6 q cy S)) (pc' := 49) (lv' := [(0, .ref (q 0)), (1, .int u1), (3, .int y3)]) (st' := [.int j5]) ?_ (fun K6 => ?_)
        · refine cv_istore_n (i := 2) (lv' := [(2, .int j5), (0, .ref (q 0)), (1, .int u1), (3, .int y3)]) (q := 50) C dX6_tall_49 rfl (by decide) rfl rfl ?_
          obtain ⟨x7, ex7, hm⟩ := cv_lt_s hm
          refine cv_iinc (v := x7) (lv' := [(3, .int x7), (2, .int j5), (0, .ref (q 0)), (1, .int u1)]) (q := 53) 3 C dX6_tall_50 rfl (by rw [ex7]; rfl) (by decide) rfl rfl ?_
          refine cv_goto (tgt := 4) C dX6_tall_53 (by decide) ?_
          refine cv_sub [2, 3, 1, 0] rfl ?_
          exact ih j5 x7 hm kx
        · have hm := hj5
          refine cv_icmp_le (tgt := 48) (q := 43) C dX6_tall_40 (by decide) rfl (fun h8 => ?_) (fun h8 => ?_)
          · have hm := cv_if_t h8 hm
            refine cv_iload_n (i := 2) (q := 49) 3 C dX6_tall_48 rfl rfl rfl ?_
            obtain rfl := Option.some.inj hm
            refine cv_sub [1, 2, 4] rfl ?_
            exact K6
          · have hm := cv_if_f h8 hm
            refine cv_iload (i := 4) (q := 45) 0 C dX6_tall_43 rfl rfl ?_
            refine cv_goto (tgt := 49) C dX6_tall_45 (by decide) ?_
            obtain rfl := Option.some.inj hm
            refine cv_sub [1, 2, 4] rfl ?_
            exact K6
      · have hm := hj3
        refine cv_icmp_ne (tgt := 34) (q := 25) C dX6_tall_22 (by decide) rfl (fun h9 => ?_) (fun h9 => ?_)
        · have hm := cv_if_f h9 hm
          refine cv_iconst (v := -1) (q := 35) C dX6_tall_34 (by decide) rfl ?_
          obtain rfl := Option.some.inj hm
          exact K4
        · have hm := cv_if_t h9 hm
          refine cv_aload_n (i := 0) (q := 26) 0 C dX6_tall_25 rfl rfl rfl ?_
          refine cv_iload_n (i := 1) (q := 27) 1 C dX6_tall_26 rfl rfl rfl ?_
          refine cv_iload_n (i := 3) (q := 28) 3 C dX6_tall_27 rfl rfl rfl ?_
          obtain ⟨r10, hr10, hm⟩ := cv_bd_s hm
          refine cv_goW (q := 31) C (KX6_depth (l := l) (σ := σ) (D := D) (cy := cy)  q  S u1 y3 hr10) (cv_rv (As := [.int u1, .int y3]) (st := []) (n := 2) (q0 := 0) (ci := 6) C (KX6_depth (l := l) (σ := σ) (D := D) (cy := cy)  q  S u1 y3 hr10) rfl rfl gX6_tall_X6_depth rfl ⟨rfl, rfl⟩ (by decide +kernel) rfl ⟨Nat.le_of_ble_eq_true rfl, Nat.le_of_ble_eq_true rfl⟩ rfl (Nat.le_of_ble_eq_true rfl) dX6_tall_28 ⟨Nat.zero_le _, Nat.zero_le _⟩) rfl ?_
          refine cv_goto (tgt := 35) C dX6_tall_31 (by decide) ?_
          obtain rfl := Option.some.inj hm
          exact K4
set_option maxHeartbeats 4000000 in
set_option maxRecDepth 100000 in
theorem KX6_tall {l : Launch} {σ : Nat → Nat} {D : va_G} {cy : ClassId} (q : Nat → Nat) (S : SX6) (a1 : Int32) {res : Int32} (hm : fX6_tall S a1 = some res) : cv_M l yX6_tall wsX6_tall rX6_tall σ D [(cy, .int)] [.ref (q 0), .int a1] (wX6 q cy S) (some (.int res)) (wX6 q cy S) := by
  unfold fX6_tall at hm
  refine cv_M.of (own := RX6) (by decide +kernel) rfl rfl (lv := [(0, .ref (q 0)), (1, .int a1)]) rfl (Nat.le_of_ble_eq_true rfl) ?_
  intro p e s m args below meth c A C hr hk
  refine cv_iconst (v := -1) (q := 1) C dX6_tall_0 (by decide) rfl ?_
  refine cv_istore_n (i := 2) (lv' := [(2, .int (-1 : Int32)), (0, .ref (q 0)), (1, .int a1)]) (q := 2) C dX6_tall_1 rfl (by decide) rfl rfl ?_
  refine cv_iconst (v := 0) (q := 3) C dX6_tall_2 (by decide) rfl ?_
  refine cv_istore_n (i := 3) (lv' := [(3, .int (0 : Int32)), (2, .int (-1 : Int32)), (0, .ref (q 0)), (1, .int a1)]) (q := 4) C dX6_tall_3 rfl (by decide) rfl rfl ?_
  obtain ⟨j11, hj11, hm⟩ := cv_bd_s hm
  refine cv_cut (ws' := (wX6 q cy S)) (pc' := 56) (lv' := [(2, .int j11)]) (st' := []) ?_ (fun K12 => ?_)
  · refine cv_iload_n (i := 2) (q := 57) 0 C dX6_tall_56 rfl rfl rfl ?_
    obtain rfl := Option.some.inj hm
    exact cv_iret C hr hk dX6_tall_57
  · refine cv_sub [2, 3, 1, 0] rfl ?_
    exact vX6_tall_L4 q S a1 C 256 (-1 : Int32) (0 : Int32) hj11 K12
def fX6_limit_L21 (S : SX6) (u1 : Int32) (u2 : Int32) : Nat → Int32 → Int64 → Int64 → Option (Int32)
  | 0, _, _, _ => none
  | n + 1, y3, y4, y6 =>
    if u2 ≤ (1 : Int32) then
      (
      some y3
      )
    else
      (
      if 0 < (lg_cmp y4 y6) then
        (
        some y3
        )
      else
        (
        cv_lt (y3 + (1 : Int32)) fun x7 =>
        cv_bd (fX6_b S u1) fun r8 =>
        cv_lt ((y4 * (r8).toInt64)) fun x9 =>
        cv_bd (fX6_a S u1) fun r10 =>
        cv_lt ((y6 * (r10).toInt64)) fun x11 =>
        fX6_limit_L21 S u1 u2 n x7 x9 x11
        )
      )
def fX6_limit (S : SX6) (a1 : Int32) (a2 : Int32) : Option (Int32) :=
  cv_bd (fX6_b S a1) fun r1 =>
  cv_lt ((r1).toInt64) fun x2 =>
  cv_bd (fX6_a S a1) fun r3 =>
  cv_lt (((r3).toInt64 * (a2).toInt64)) fun x4 =>
  cv_bd (fX6_limit_L21 S a1 a2 256 (0 : Int32) x2 x4) fun j12 =>
  some j12
abbrev rX6_limit : Room := { frames := 1, cells := 0, slots := 0, locals := 21 }
set_option maxHeartbeats 4000000 in
set_option maxRecDepth 100000 in
theorem vX6_limit_L21 {p : Program} {l : Launch} {e : Env} {s : State} {m : MethodId} {args : Array Value} {below : List Frame} {meth : Method} {c : Code} {σ : Nat → Nat} {D : va_G} {A : Nat → Prop} {cy : ClassId} (q : Nat → Nat) (S : SX6) (u1 : Int32) (u2 : Int32) (C : cv_C p s m args c cX6_limit 8 RX6 wsX6_limit σ D [(cy, .int)] A) {Q : State → Prop} {j : Int32} : ∀ (n : Nat) (y3 : Int32) (y4 : Int64) (y6 : Int64), fX6_limit_L21 S u1 u2 n y3 y4 y6 = some j → cv_V p l e rX6_limit s m args below meth c 8 D A Q 0 0 (wX6 q cy S) 62 [(3, .int j)] [] → cv_V p l e rX6_limit s m args below meth c 8 D A Q 0 0 (wX6 q cy S) 21 [(0, .ref (q 0)), (1, .int u1), (2, .int u2), (3, .int y3), (4, .long y4), (6, .long y6)] [] := by
  intro n
  induction n with
  | zero => intro y3 y4 y6 hm kx; cases hm
  | succ n ih =>
    intro y3 y4 y6 hm kx
    have hm : fX6_limit_L21 S u1 u2 (n + 1) y3 y4 y6 = some j := hm
    unfold fX6_limit_L21 at hm
    refine cv_iload_n (i := 2) (q := 22) 2 C dX6_limit_21 rfl rfl rfl ?_
    refine cv_iconst (v := 1) (q := 23) C dX6_limit_22 (by decide) rfl ?_
    refine cv_icmp_le (tgt := 62) (q := 26) C dX6_limit_23 (by decide) rfl (fun h5 => ?_) (fun h5 => ?_)
    · have hm := cv_if_t h5 hm
      obtain rfl := Option.some.inj hm
      refine cv_sub [3] rfl ?_
      exact kx
    · have hm := cv_if_f h5 hm
      refine cv_lload (i := 4) (q := 28) 4 C dX6_limit_26 rfl rfl ?_
      refine cv_lload (i := 6) (q := 30) 5 C dX6_limit_28 rfl rfl ?_
      refine cv_lcmp (q := 31) C dX6_limit_30 rfl ?_
      refine cv_if_gt (tgt := 62) (q := 34) C dX6_limit_31 (by decide) rfl (fun h6 => ?_) (fun h6 => ?_)
      · have hm := cv_if_t h6 hm
        obtain rfl := Option.some.inj hm
        refine cv_sub [3] rfl ?_
        exact kx
      · have hm := cv_if_f h6 hm
        obtain ⟨x7, ex7, hm⟩ := cv_lt_s hm
        refine cv_iinc (v := x7) (lv' := [(3, .int x7), (0, .ref (q 0)), (1, .int u1), (2, .int u2), (4, .long y4), (6, .long y6)]) (q := 37) 3 C dX6_limit_34 rfl (by rw [ex7]; rfl) (by decide) rfl rfl ?_
        refine cv_lload (i := 4) (q := 39) 4 C dX6_limit_37 rfl rfl ?_
        refine cv_aload_n (i := 0) (q := 40) 1 C dX6_limit_39 rfl rfl rfl ?_
        refine cv_iload_n (i := 1) (q := 41) 2 C dX6_limit_40 rfl rfl rfl ?_
        obtain ⟨r8, hr8, hm⟩ := cv_bd_s hm
        refine cv_goW (q := 44) C (KX6_b (l := l) (σ := σ) (D := D) (cy := cy)  q  S u1 hr8) (cv_rv (As := [.int u1]) (st := [.long y4]) (n := 1) (q0 := 0) (ci := 6) C (KX6_b (l := l) (σ := σ) (D := D) (cy := cy)  q  S u1 hr8) rfl rfl gX6_limit_X6_b rfl ⟨rfl, rfl⟩ (by decide +kernel) rfl ⟨Nat.le_of_ble_eq_true rfl, Nat.le_of_ble_eq_true rfl⟩ rfl (Nat.le_of_ble_eq_true rfl) dX6_limit_41 ⟨Nat.zero_le _, Nat.zero_le _⟩) rfl ?_
        refine cv_i2l (q := 45) C dX6_limit_44 rfl ?_
        refine cv_lmul (q := 46) C dX6_limit_45 rfl ?_
        obtain ⟨x9, ex9, hm⟩ := cv_lt_s hm
        refine cv_topl ex9 ?_
        refine cv_lstore (i := 4) (lv' := [(4, .long x9), (3, .int x7), (0, .ref (q 0)), (1, .int u1), (2, .int u2), (6, .long y6)]) (q := 48) C dX6_limit_46 (by decide) rfl rfl ?_
        refine cv_lload (i := 6) (q := 50) 5 C dX6_limit_48 rfl rfl ?_
        refine cv_aload_n (i := 0) (q := 51) 2 C dX6_limit_50 rfl rfl rfl ?_
        refine cv_iload_n (i := 1) (q := 52) 3 C dX6_limit_51 rfl rfl rfl ?_
        obtain ⟨r10, hr10, hm⟩ := cv_bd_s hm
        refine cv_goW (q := 55) C (KX6_a (l := l) (σ := σ) (D := D) (cy := cy)  q  S u1 hr10) (cv_rv (As := [.int u1]) (st := [.long y6]) (n := 1) (q0 := 0) (ci := 6) C (KX6_a (l := l) (σ := σ) (D := D) (cy := cy)  q  S u1 hr10) rfl rfl gX6_limit_X6_a rfl ⟨rfl, rfl⟩ (by decide +kernel) rfl ⟨Nat.le_of_ble_eq_true rfl, Nat.le_of_ble_eq_true rfl⟩ rfl (Nat.le_of_ble_eq_true rfl) dX6_limit_52 ⟨Nat.zero_le _, Nat.zero_le _⟩) rfl ?_
        refine cv_i2l (q := 56) C dX6_limit_55 rfl ?_
        refine cv_lmul (q := 57) C dX6_limit_56 rfl ?_
        obtain ⟨x11, ex11, hm⟩ := cv_lt_s hm
        refine cv_topl ex11 ?_
        refine cv_lstore (i := 6) (lv' := [(6, .long x11), (4, .long x9), (3, .int x7), (0, .ref (q 0)), (1, .int u1), (2, .int u2)]) (q := 59) C dX6_limit_57 (by decide) rfl rfl ?_
        refine cv_goto (tgt := 21) C dX6_limit_59 (by decide) ?_
        refine cv_sub [3, 4, 5, 2, 1, 0] rfl ?_
        exact ih x7 x9 x11 hm kx
set_option maxHeartbeats 4000000 in
set_option maxRecDepth 100000 in
theorem KX6_limit {l : Launch} {σ : Nat → Nat} {D : va_G} {cy : ClassId} (q : Nat → Nat) (S : SX6) (a1 : Int32) (a2 : Int32) {res : Int32} (hm : fX6_limit S a1 a2 = some res) : cv_M l yX6_limit wsX6_limit rX6_limit σ D [(cy, .int)] [.ref (q 0), .int a1, .int a2] (wX6 q cy S) (some (.int res)) (wX6 q cy S) := by
  unfold fX6_limit at hm
  refine cv_M.of (own := RX6) (by decide +kernel) rfl rfl (lv := [(0, .ref (q 0)), (1, .int a1), (2, .int a2)]) rfl (Nat.le_of_ble_eq_true rfl) ?_
  intro p e s m args below meth c A C hr hk
  refine cv_iconst (v := 0) (q := 1) C dX6_limit_0 (by decide) rfl ?_
  refine cv_istore_n (i := 3) (lv' := [(3, .int (0 : Int32)), (0, .ref (q 0)), (1, .int a1), (2, .int a2)]) (q := 2) C dX6_limit_1 rfl (by decide) rfl rfl ?_
  refine cv_aload_n (i := 0) (q := 3) 1 C dX6_limit_2 rfl rfl rfl ?_
  refine cv_iload_n (i := 1) (q := 4) 2 C dX6_limit_3 rfl rfl rfl ?_
  obtain ⟨r1, hr1, hm⟩ := cv_bd_s hm
  refine cv_goW (q := 7) C (KX6_b (l := l) (σ := σ) (D := D) (cy := cy)  q  S a1 hr1) (cv_rv (As := [.int a1]) (st := []) (n := 1) (q0 := 0) (ci := 6) C (KX6_b (l := l) (σ := σ) (D := D) (cy := cy)  q  S a1 hr1) rfl rfl gX6_limit_X6_b rfl ⟨rfl, rfl⟩ (by decide +kernel) rfl ⟨Nat.le_of_ble_eq_true rfl, Nat.le_of_ble_eq_true rfl⟩ rfl (Nat.le_of_ble_eq_true rfl) dX6_limit_4 ⟨Nat.zero_le _, Nat.zero_le _⟩) rfl ?_
  refine cv_i2l (q := 8) C dX6_limit_7 rfl ?_
  obtain ⟨x2, ex2, hm⟩ := cv_lt_s hm
  refine cv_topl ex2 ?_
  refine cv_lstore (i := 4) (lv' := [(4, .long x2), (3, .int (0 : Int32)), (0, .ref (q 0)), (1, .int a1), (2, .int a2)]) (q := 10) C dX6_limit_8 (by decide) rfl rfl ?_
  refine cv_aload_n (i := 0) (q := 11) 2 C dX6_limit_10 rfl rfl rfl ?_
  refine cv_iload_n (i := 1) (q := 12) 3 C dX6_limit_11 rfl rfl rfl ?_
  obtain ⟨r3, hr3, hm⟩ := cv_bd_s hm
  refine cv_goW (q := 15) C (KX6_a (l := l) (σ := σ) (D := D) (cy := cy)  q  S a1 hr3) (cv_rv (As := [.int a1]) (st := []) (n := 1) (q0 := 0) (ci := 6) C (KX6_a (l := l) (σ := σ) (D := D) (cy := cy)  q  S a1 hr3) rfl rfl gX6_limit_X6_a rfl ⟨rfl, rfl⟩ (by decide +kernel) rfl ⟨Nat.le_of_ble_eq_true rfl, Nat.le_of_ble_eq_true rfl⟩ rfl (Nat.le_of_ble_eq_true rfl) dX6_limit_12 ⟨Nat.zero_le _, Nat.zero_le _⟩) rfl ?_
  refine cv_i2l (q := 16) C dX6_limit_15 rfl ?_
  refine cv_iload_n (i := 2) (q := 17) 4 C dX6_limit_16 rfl rfl rfl ?_
  refine cv_i2l (q := 18) C dX6_limit_17 rfl ?_
  refine cv_lmul (q := 19) C dX6_limit_18 rfl ?_
  obtain ⟨x4, ex4, hm⟩ := cv_lt_s hm
  refine cv_topl ex4 ?_
  refine cv_lstore (i := 6) (lv' := [(6, .long x4), (4, .long x2), (3, .int (0 : Int32)), (0, .ref (q 0)), (1, .int a1), (2, .int a2)]) (q := 21) C dX6_limit_19 (by decide) rfl rfl ?_
  obtain ⟨j12, hj12, hm⟩ := cv_bd_s hm
  refine cv_cut (ws' := (wX6 q cy S)) (pc' := 62) (lv' := [(3, .int j12)]) (st' := []) ?_ (fun K13 => ?_)
  · refine cv_iload_n (i := 3) (q := 63) 0 C dX6_limit_62 rfl rfl rfl ?_
    obtain rfl := Option.some.inj hm
    exact cv_iret C hr hk dX6_limit_63
  · refine cv_sub [3, 4, 5, 2, 1, 0] rfl ?_
    exact vX6_limit_L21 q S a1 a2 C 256 (0 : Int32) x2 x4 hj12 K13
def fX6_hang (S : SX6) (a1 : Int32) (a2 : Int32) (a3 : Int32) : Option (SX6) :=
  cv_bd (
    if a2 = (-1 : Int32) then
      (
      some S
      )
    else
      (
      cv_gd (0 ≤ ((((100 : Int32) * a1) + a2)).toInt ∧ ((((100 : Int32) * a1) + a2)).toInt < 200) <|
      cv_lt (sX6_above S (upd (gX6_above S) ((((100 : Int32) * a1) + a2)).toNatClampNeg a3)) fun s8 =>
      some s8
      )
  ) fun j1 =>
  if a3 = (-1 : Int32) then
    (
    cv_gd (0 ≤ (a1).toInt ∧ (a1).toInt < 2) <|
    cv_lt (sX6_root j1 (upd (gX6_root j1) (a1).toNatClampNeg a2)) fun s5 =>
    some s5
    )
  else
    (
    some j1
    )
abbrev rX6_hang : Room := { frames := 0, cells := 0, slots := 0, locals := 0 }
theorem iX6_hang_X6 : ∀ w ∈ u_ws RX6 TX6 50, w ∈ wsX6_hang := fun w h => List.mem_cons_of_mem _ (List.mem_append_right _ h)
set_option maxHeartbeats 4000000 in
set_option maxRecDepth 100000 in
theorem KX6_hang {l : Launch} {σ : Nat → Nat} {D : va_G} {cy : ClassId} (q : Nat → Nat) (S : SX6) (a1 : Int32) (a2 : Int32) (a3 : Int32) {res : SX6} (hm : fX6_hang S a1 a2 a3 = some res) : cv_M l yX6_hang wsX6_hang rX6_hang σ D [(cy, .int)] [.ref (q 0), .int a1, .int a2, .int a3] (wX6 q cy S) none (wX6 q cy res) := by
  unfold fX6_hang at hm
  refine cv_M.of (own := RX6) (by decide +kernel) rfl rfl (lv := [(0, .ref (q 0)), (1, .int a1), (2, .int a2), (3, .int a3)]) rfl (Nat.le_of_ble_eq_true rfl) ?_
  intro p e s m args below meth c A C hr hk
  refine cv_iload_n (i := 2) (q := 1) 2 C dX6_hang_0 rfl rfl rfl ?_
  refine cv_iconst (v := -1) (q := 2) C dX6_hang_1 (by decide) rfl ?_
  obtain ⟨j1, hj1, hm⟩ := cv_bd_s hm
  refine cv_cut (ws' := (wX6 q cy j1)) (pc' := 17) (lv' := [(0, .ref (q 0)), (1, .int a1), (2, .int a2), (3, .int a3)]) (st' := []) ?_ (fun K2 => ?_)
  · refine cv_iload_n (i := 3) (q := 18) 3 C dX6_hang_17 rfl rfl rfl ?_
    refine cv_iconst (v := -1) (q := 19) C dX6_hang_18 (by decide) rfl ?_
    refine cv_icmp_ne (tgt := 29) (q := 22) C dX6_hang_19 (by decide) rfl (fun h3 => ?_) (fun h3 => ?_)
    · have hm := cv_if_f h3 hm
      obtain rfl := Option.some.inj hm
      exact cv_vret C hr hk dX6_hang_29
    · have hm := cv_if_t h3 hm
      refine cv_aload_n (i := 0) (q := 23) 0 C dX6_hang_22 rfl rfl rfl ?_
      refine cv_get (q := 26) C iX6_hang_X6 0 rfl rfl 6 (by decide) (List.mem_of_getElem? (i := 2) rfl) rfl rfl dX6_hang_23 rfl ?_
      refine cv_iload_n (i := 1) (q := 27) 1 C dX6_hang_26 rfl rfl rfl ?_
      refine cv_iload_n (i := 2) (q := 28) 2 C dX6_hang_27 rfl rfl rfl ?_
      obtain ⟨g4, hm⟩ := cv_gd_s hm
      obtain ⟨s5, es5, hm⟩ := cv_lt_s hm
      refine cv_iast (q := 29) (ws' := (wX6 q cy s5)) C 6 0 rfl rfl (vp_in_iff.mpr g4) dX6_hang_28 rfl (by rw [es5]; rfl) ?_
      obtain rfl := Option.some.inj hm
      exact cv_vret C hr hk dX6_hang_29
  · have hm := hj1
    refine cv_icmp_eq (tgt := 17) (q := 5) C dX6_hang_2 (by decide) rfl (fun h6 => ?_) (fun h6 => ?_)
    · have hm := cv_if_t h6 hm
      obtain rfl := Option.some.inj hm
      exact K2
    · have hm := cv_if_f h6 hm
      refine cv_aload_n (i := 0) (q := 6) 0 C dX6_hang_5 rfl rfl rfl ?_
      refine cv_get (q := 9) C iX6_hang_X6 0 rfl rfl 4 (by decide) (List.mem_of_getElem? (i := 1) rfl) rfl rfl dX6_hang_6 rfl ?_
      refine cv_bipush (v := 100) (q := 11) C dX6_hang_9 (by decide) rfl ?_
      refine cv_iload_n (i := 1) (q := 12) 1 C dX6_hang_11 rfl rfl rfl ?_
      refine cv_imul (q := 13) C dX6_hang_12 rfl ?_
      refine cv_iload_n (i := 2) (q := 14) 2 C dX6_hang_13 rfl rfl rfl ?_
      refine cv_iadd (q := 15) C dX6_hang_14 rfl ?_
      refine cv_iload_n (i := 3) (q := 16) 3 C dX6_hang_15 rfl rfl rfl ?_
      obtain ⟨g7, hm⟩ := cv_gd_s hm
      obtain ⟨s8, es8, hm⟩ := cv_lt_s hm
      refine cv_iast (q := 17) (ws' := (wX6 q cy s8)) C 4 0 rfl rfl (vp_in_iff.mpr g7) dX6_hang_16 rfl (by rw [es8]; rfl) ?_
      obtain rfl := Option.some.inj hm
      exact K2
def fX6_layRow_L5 (u1 : Int32) (u2 : Int32) : Nat → Int32 → Int32 → SX6 → Option (SX6)
  | 0, _, _, _ => none
  | n + 1, y3, y4, S =>
    if (100 : Int32) ≤ y4 then
      (
      some S
      )
    else
      (
      cv_gd (0 ≤ ((((100 : Int32) * u1) + y4)).toInt ∧ ((((100 : Int32) * u1) + y4)).toInt < 200) <|
      cv_bd (
        if ((gX6_there S) ((((100 : Int32) * u1) + y4)).toNatClampNeg) = (1 : Int32) then
          (
          cv_bd (fX6_isBelow S u1 y4 u2) fun r7 =>
          if r7 = 0 then
            (
            some (y3, S)
            )
          else
            (
            cv_gd (0 ≤ (y3).toInt ∧ (y3).toInt < 40) <|
            cv_lt (sX6_row S (upd (gX6_row S) (y3).toNatClampNeg y4)) fun s10 =>
            cv_lt (y3 + (1 : Int32)) fun x11 =>
            some (x11, s10)
            )
          )
        else
          (
          some (y3, S)
          )
      ) fun j3 =>
      cv_lt (y4 + (1 : Int32)) fun x5 =>
      fX6_layRow_L5 u1 u2 n j3.1 x5 j3.2
      )
def fX6_layRow (S : SX6) (a1 : Int32) (a2 : Int32) : Option (SX6) :=
  cv_bd (fX6_layRow_L5 a1 a2 256 (0 : Int32) (0 : Int32) S) fun j12 =>
  some j12
abbrev rX6_layRow : Room := { frames := 1, cells := 0, slots := 0, locals := 24 }
theorem iX6_layRow_X6 : ∀ w ∈ u_ws RX6 TX6 50, w ∈ wsX6_layRow := fun w h => List.mem_cons_of_mem _ (List.mem_append_right _ h)
set_option maxHeartbeats 4000000 in
set_option maxRecDepth 100000 in
theorem vX6_layRow_L5 {p : Program} {l : Launch} {e : Env} {s : State} {m : MethodId} {args : Array Value} {below : List Frame} {meth : Method} {c : Code} {σ : Nat → Nat} {D : va_G} {A : Nat → Prop} {cy : ClassId} (q : Nat → Nat) (u1 : Int32) (u2 : Int32) (C : cv_C p s m args c cX6_layRow 5 RX6 wsX6_layRow σ D [(cy, .int)] A) {Q : State → Prop} {j : SX6} : ∀ (n : Nat) (y3 : Int32) (y4 : Int32) (S : SX6), fX6_layRow_L5 u1 u2 n y3 y4 S = some j → cv_V p l e rX6_layRow s m args below meth c 5 D A Q 0 0 (wX6 q cy j) 56 [] [] → cv_V p l e rX6_layRow s m args below meth c 5 D A Q 0 0 (wX6 q cy S) 5 [(0, .ref (q 0)), (1, .int u1), (2, .int u2), (3, .int y3), (4, .int y4)] [] := by
  intro n
  induction n with
  | zero => intro y3 y4 S hm kx; cases hm
  | succ n ih =>
    intro y3 y4 S hm kx
    have hm : fX6_layRow_L5 u1 u2 (n + 1) y3 y4 S = some j := hm
    unfold fX6_layRow_L5 at hm
    refine cv_iload (i := 4) (q := 7) 4 C dX6_layRow_5 rfl rfl ?_
    refine cv_bipush (v := 100) (q := 9) C dX6_layRow_7 (by decide) rfl ?_
    refine cv_icmp_ge (tgt := 56) (q := 12) C dX6_layRow_9 (by decide) rfl (fun h1 => ?_) (fun h1 => ?_)
    · have hm := cv_if_t h1 hm
      obtain rfl := Option.some.inj hm
      refine cv_sub [] rfl ?_
      exact kx
    · have hm := cv_if_f h1 hm
      refine cv_aload_n (i := 0) (q := 13) 0 C dX6_layRow_12 rfl rfl rfl ?_
      refine cv_get (q := 16) C iX6_layRow_X6 0 rfl rfl 5 (by decide) (List.mem_of_getElem? (i := 1) rfl) rfl rfl dX6_layRow_13 rfl ?_
      refine cv_bipush (v := 100) (q := 18) C dX6_layRow_16 (by decide) rfl ?_
      refine cv_iload_n (i := 1) (q := 19) 1 C dX6_layRow_18 rfl rfl rfl ?_
      refine cv_imul (q := 20) C dX6_layRow_19 rfl ?_
      refine cv_iload (i := 4) (q := 22) 4 C dX6_layRow_20 rfl rfl ?_
      refine cv_iadd (q := 23) C dX6_layRow_22 rfl ?_
      obtain ⟨g2, hm⟩ := cv_gd_s hm
      refine cv_iald (q := 24) C 5 0 rfl rfl (vp_in_iff.mpr g2) dX6_layRow_23 rfl ?_
      refine cv_iconst (v := 1) (q := 25) C dX6_layRow_24 (by decide) rfl ?_
      obtain ⟨j3, hj3, hm⟩ := cv_bd_s hm
      refine cv_cut (ws' := (wX6 q cy j3.2)) (pc' := 50) (lv' := [(0, .ref (q 0)), (1, .int u1), (2, .int u2), (3, .int j3.1), (4, .int y4)]) (st' := []) ?_ (fun K4 => ?_)
      · obtain ⟨x5, ex5, hm⟩ := cv_lt_s hm
        refine cv_iinc (v := x5) (lv' := [(4, .int x5), (0, .ref (q 0)), (1, .int u1), (2, .int u2), (3, .int j3.1)]) (q := 53) 4 C dX6_layRow_50 rfl (by rw [ex5]; rfl) (by decide) rfl rfl ?_
        refine cv_goto (tgt := 5) C dX6_layRow_53 (by decide) ?_
        refine cv_sub [1, 2, 3, 4, 0] rfl ?_
        exact ih j3.1 x5 j3.2 hm kx
      · have hm := hj3
        refine cv_icmp_ne (tgt := 50) (q := 28) C dX6_layRow_25 (by decide) rfl (fun h6 => ?_) (fun h6 => ?_)
        · have hm := cv_if_f h6 hm
          obtain rfl := Option.some.inj hm
          exact K4
        · have hm := cv_if_t h6 hm
          refine cv_aload_n (i := 0) (q := 29) 0 C dX6_layRow_28 rfl rfl rfl ?_
          refine cv_iload_n (i := 1) (q := 30) 1 C dX6_layRow_29 rfl rfl rfl ?_
          refine cv_iload (i := 4) (q := 32) 4 C dX6_layRow_30 rfl rfl ?_
          refine cv_iload_n (i := 2) (q := 33) 2 C dX6_layRow_32 rfl rfl rfl ?_
          obtain ⟨r7, hr7, hm⟩ := cv_bd_s hm
          refine cv_goW (q := 36) C (KX6_isBelow (l := l) (σ := σ) (D := D) (cy := cy)  q  S u1 y4 u2 hr7) (cv_rv (As := [.int u1, .int y4, .int u2]) (st := []) (n := 3) (q0 := 0) (ci := 6) C (KX6_isBelow (l := l) (σ := σ) (D := D) (cy := cy)  q  S u1 y4 u2 hr7) rfl rfl gX6_layRow_X6_isBelow rfl ⟨rfl, rfl⟩ (by decide +kernel) rfl ⟨Nat.le_of_ble_eq_true rfl, Nat.le_of_ble_eq_true rfl⟩ rfl (Nat.le_of_ble_eq_true rfl) dX6_layRow_33 ⟨Nat.zero_le _, Nat.zero_le _⟩) rfl ?_
          refine cv_if_eq (tgt := 50) (q := 39) C dX6_layRow_36 (by decide) rfl (fun h8 => ?_) (fun h8 => ?_)
          · have hm := cv_if_t h8 hm
            obtain rfl := Option.some.inj hm
            exact K4
          · have hm := cv_if_f h8 hm
            refine cv_aload_n (i := 0) (q := 40) 0 C dX6_layRow_39 rfl rfl rfl ?_
            refine cv_get (q := 43) C iX6_layRow_X6 0 rfl rfl 24 (by decide) (List.mem_of_getElem? (i := 2) rfl) rfl rfl dX6_layRow_40 rfl ?_
            refine cv_iload_n (i := 3) (q := 44) 3 C dX6_layRow_43 rfl rfl rfl ?_
            refine cv_iload (i := 4) (q := 46) 4 C dX6_layRow_44 rfl rfl ?_
            obtain ⟨g9, hm⟩ := cv_gd_s hm
            obtain ⟨s10, es10, hm⟩ := cv_lt_s hm
            refine cv_iast (q := 47) (ws' := (wX6 q cy s10)) C 14 0 rfl rfl (vp_in_iff.mpr g9) dX6_layRow_46 rfl (by rw [es10]; rfl) ?_
            obtain ⟨x11, ex11, hm⟩ := cv_lt_s hm
            refine cv_iinc (v := x11) (lv' := [(3, .int x11), (0, .ref (q 0)), (1, .int u1), (2, .int u2), (4, .int y4)]) (q := 50) 3 C dX6_layRow_47 rfl (by rw [ex11]; rfl) (by decide) rfl rfl ?_
            obtain rfl := Option.some.inj hm
            refine cv_sub [1, 2, 3, 0, 4] rfl ?_
            exact K4
set_option maxHeartbeats 4000000 in
set_option maxRecDepth 100000 in
theorem KX6_layRow {l : Launch} {σ : Nat → Nat} {D : va_G} {cy : ClassId} (q : Nat → Nat) (S : SX6) (a1 : Int32) (a2 : Int32) {res : SX6} (hm : fX6_layRow S a1 a2 = some res) : cv_M l yX6_layRow wsX6_layRow rX6_layRow σ D [(cy, .int)] [.ref (q 0), .int a1, .int a2] (wX6 q cy S) none (wX6 q cy res) := by
  unfold fX6_layRow at hm
  refine cv_M.of (own := RX6) (by decide +kernel) rfl rfl (lv := [(0, .ref (q 0)), (1, .int a1), (2, .int a2)]) rfl (Nat.le_of_ble_eq_true rfl) ?_
  intro p e s m args below meth c A C hr hk
  refine cv_iconst (v := 0) (q := 1) C dX6_layRow_0 (by decide) rfl ?_
  refine cv_istore_n (i := 3) (lv' := [(3, .int (0 : Int32)), (0, .ref (q 0)), (1, .int a1), (2, .int a2)]) (q := 2) C dX6_layRow_1 rfl (by decide) rfl rfl ?_
  refine cv_iconst (v := 0) (q := 3) C dX6_layRow_2 (by decide) rfl ?_
  refine cv_istore (i := 4) (lv' := [(4, .int (0 : Int32)), (3, .int (0 : Int32)), (0, .ref (q 0)), (1, .int a1), (2, .int a2)]) (q := 5) C dX6_layRow_3 (by decide) rfl rfl ?_
  obtain ⟨j12, hj12, hm⟩ := cv_bd_s hm
  refine cv_cut (ws' := (wX6 q cy j12)) (pc' := 56) (lv' := []) (st' := []) ?_ (fun K13 => ?_)
  · obtain rfl := Option.some.inj hm
    exact cv_vret C hr hk dX6_layRow_56
  · refine cv_sub [2, 3, 4, 1, 0] rfl ?_
    exact vX6_layRow_L5 q a1 a2 C 256 (0 : Int32) (0 : Int32) S hj12 K13
def fX6_replace (S : SX6) (a1 : Int32) (a2 : Int32) (a3 : Int32) : Option (SX6) :=
  cv_gd (0 ≤ ((((100 : Int32) * a1) + a2)).toInt ∧ ((((100 : Int32) * a1) + a2)).toInt < 200) <|
  cv_lt (((gX6_above S) ((((100 : Int32) * a1) + a2)).toNatClampNeg)) fun x2 =>
  cv_bd (
    if x2 = (-1 : Int32) then
      (
      if x2 = (-1 : Int32) then
        (
        some S
        )
      else
        (
        cv_gd (0 ≤ ((((100 : Int32) * a1) + x2)).toInt ∧ ((((100 : Int32) * a1) + x2)).toInt < 200) <|
        cv_lt (sX6_right S (upd (gX6_right S) ((((100 : Int32) * a1) + x2)).toNatClampNeg a3)) fun s9 =>
        some s9
        )
      )
    else
      (
      cv_gd (0 ≤ ((((100 : Int32) * a1) + x2)).toInt ∧ ((((100 : Int32) * a1) + x2)).toInt < 200) <|
      if ((gX6_left S) ((((100 : Int32) * a1) + x2)).toNatClampNeg) = a2 then
        (
        cv_gd (0 ≤ ((((100 : Int32) * a1) + x2)).toInt ∧ ((((100 : Int32) * a1) + x2)).toInt < 200) <|
        cv_lt (sX6_left S (upd (gX6_left S) ((((100 : Int32) * a1) + x2)).toNatClampNeg a3)) fun s16 =>
        some s16
        )
      else
        (
        if x2 = (-1 : Int32) then
          (
          some S
          )
        else
          (
          cv_gd (0 ≤ ((((100 : Int32) * a1) + x2)).toInt ∧ ((((100 : Int32) * a1) + x2)).toInt < 200) <|
          cv_lt (sX6_right S (upd (gX6_right S) ((((100 : Int32) * a1) + x2)).toNatClampNeg a3)) fun s14 =>
          some s14
          )
        )
      )
  ) fun j3 =>
  cv_bd (fX6_hang j3 a1 a3 x2) fun r5 =>
  some r5
abbrev rX6_replace : Room := { frames := 1, cells := 0, slots := 0, locals := 23 }
theorem iX6_replace_X6 : ∀ w ∈ u_ws RX6 TX6 50, w ∈ wsX6_replace := fun w h => List.mem_cons_of_mem _ (List.mem_append_right _ h)
set_option maxHeartbeats 4000000 in
set_option maxRecDepth 100000 in
theorem KX6_replace {l : Launch} {σ : Nat → Nat} {D : va_G} {cy : ClassId} (q : Nat → Nat) (S : SX6) (a1 : Int32) (a2 : Int32) (a3 : Int32) {res : SX6} (hm : fX6_replace S a1 a2 a3 = some res) : cv_M l yX6_replace wsX6_replace rX6_replace σ D [(cy, .int)] [.ref (q 0), .int a1, .int a2, .int a3] (wX6 q cy S) none (wX6 q cy res) := by
  unfold fX6_replace at hm
  refine cv_M.of (own := RX6) (by decide +kernel) rfl rfl (lv := [(0, .ref (q 0)), (1, .int a1), (2, .int a2), (3, .int a3)]) rfl (Nat.le_of_ble_eq_true rfl) ?_
  intro p e s m args below meth c A C hr hk
  refine cv_aload_n (i := 0) (q := 1) 0 C dX6_replace_0 rfl rfl rfl ?_
  refine cv_get (q := 4) C iX6_replace_X6 0 rfl rfl 4 (by decide) (List.mem_of_getElem? (i := 1) rfl) rfl rfl dX6_replace_1 rfl ?_
  refine cv_bipush (v := 100) (q := 6) C dX6_replace_4 (by decide) rfl ?_
  refine cv_iload_n (i := 1) (q := 7) 1 C dX6_replace_6 rfl rfl rfl ?_
  refine cv_imul (q := 8) C dX6_replace_7 rfl ?_
  refine cv_iload_n (i := 2) (q := 9) 2 C dX6_replace_8 rfl rfl rfl ?_
  refine cv_iadd (q := 10) C dX6_replace_9 rfl ?_
  obtain ⟨g1, hm⟩ := cv_gd_s hm
  refine cv_iald (q := 11) C 4 0 rfl rfl (vp_in_iff.mpr g1) dX6_replace_10 rfl ?_
  obtain ⟨x2, ex2, hm⟩ := cv_lt_s hm
  refine cv_topi ex2 ?_
  refine cv_istore (i := 4) (lv' := [(4, .int x2), (0, .ref (q 0)), (1, .int a1), (2, .int a2), (3, .int a3)]) (q := 13) C dX6_replace_11 (by decide) rfl rfl ?_
  refine cv_iload (i := 4) (q := 15) 0 C dX6_replace_13 rfl rfl ?_
  refine cv_iconst (v := -1) (q := 16) C dX6_replace_15 (by decide) rfl ?_
  obtain ⟨j3, hj3, hm⟩ := cv_bd_s hm
  refine cv_cut (ws' := (wX6 q cy j3)) (pc' := 70) (lv' := [(0, .ref (q 0)), (1, .int a1), (3, .int a3), (4, .int x2)]) (st' := []) ?_ (fun K4 => ?_)
  · refine cv_aload_n (i := 0) (q := 71) 0 C dX6_replace_70 rfl rfl rfl ?_
    refine cv_iload_n (i := 1) (q := 72) 1 C dX6_replace_71 rfl rfl rfl ?_
    refine cv_iload_n (i := 3) (q := 73) 2 C dX6_replace_72 rfl rfl rfl ?_
    refine cv_iload (i := 4) (q := 75) 3 C dX6_replace_73 rfl rfl ?_
    obtain ⟨r5, hr5, hm⟩ := cv_bd_s hm
    refine cv_goW (q := 78) C (KX6_hang (l := l) (σ := σ) (D := D) (cy := cy)  q  j3 a1 a3 x2 hr5) (cv_rv (As := [.int a1, .int a3, .int x2]) (st := []) (n := 3) (q0 := 0) (ci := 6) C (KX6_hang (l := l) (σ := σ) (D := D) (cy := cy)  q  j3 a1 a3 x2 hr5) rfl rfl gX6_replace_X6_hang rfl ⟨rfl, rfl⟩ (by decide +kernel) rfl ⟨Nat.le_of_ble_eq_true rfl, Nat.le_of_ble_eq_true rfl⟩ rfl (Nat.le_of_ble_eq_true rfl) dX6_replace_75 ⟨Nat.zero_le _, Nat.zero_le _⟩) rfl ?_
    obtain rfl := Option.some.inj hm
    exact cv_vret C hr hk dX6_replace_78
  · have hm := hj3
    refine cv_icmp_eq (tgt := 51) (q := 19) C dX6_replace_16 (by decide) rfl (fun h6 => ?_) (fun h6 => ?_)
    · have hm := cv_if_t h6 hm
      refine cv_iload (i := 4) (q := 53) 0 C dX6_replace_51 rfl rfl ?_
      refine cv_iconst (v := -1) (q := 54) C dX6_replace_53 (by decide) rfl ?_
      refine cv_icmp_eq (tgt := 70) (q := 57) C dX6_replace_54 (by decide) rfl (fun h7 => ?_) (fun h7 => ?_)
      · have hm := cv_if_t h7 hm
        obtain rfl := Option.some.inj hm
        refine cv_sub [1, 2, 4, 0] rfl ?_
        exact K4
      · have hm := cv_if_f h7 hm
        refine cv_aload_n (i := 0) (q := 58) 1 C dX6_replace_57 rfl rfl rfl ?_
        refine cv_get (q := 61) C iX6_replace_X6 0 rfl rfl 3 (by decide) (List.mem_of_getElem? (i := 3) rfl) rfl rfl dX6_replace_58 rfl ?_
        refine cv_bipush (v := 100) (q := 63) C dX6_replace_61 (by decide) rfl ?_
        refine cv_iload_n (i := 1) (q := 64) 2 C dX6_replace_63 rfl rfl rfl ?_
        refine cv_imul (q := 65) C dX6_replace_64 rfl ?_
        refine cv_iload (i := 4) (q := 67) 0 C dX6_replace_65 rfl rfl ?_
        refine cv_iadd (q := 68) C dX6_replace_67 rfl ?_
        refine cv_iload_n (i := 3) (q := 69) 4 C dX6_replace_68 rfl rfl rfl ?_
        obtain ⟨g8, hm⟩ := cv_gd_s hm
        obtain ⟨s9, es9, hm⟩ := cv_lt_s hm
        refine cv_iast (q := 70) (ws' := (wX6 q cy s9)) C 3 0 rfl rfl (vp_in_iff.mpr g8) dX6_replace_69 rfl (by rw [es9]; rfl) ?_
        obtain rfl := Option.some.inj hm
        refine cv_sub [1, 2, 4, 0] rfl ?_
        exact K4
    · have hm := cv_if_f h6 hm
      refine cv_aload_n (i := 0) (q := 20) 1 C dX6_replace_19 rfl rfl rfl ?_
      refine cv_get (q := 23) C iX6_replace_X6 0 rfl rfl 2 (by decide) (List.mem_of_getElem? (i := 2) rfl) rfl rfl dX6_replace_20 rfl ?_
      refine cv_bipush (v := 100) (q := 25) C dX6_replace_23 (by decide) rfl ?_
      refine cv_iload_n (i := 1) (q := 26) 2 C dX6_replace_25 rfl rfl rfl ?_
      refine cv_imul (q := 27) C dX6_replace_26 rfl ?_
      refine cv_iload (i := 4) (q := 29) 0 C dX6_replace_27 rfl rfl ?_
      refine cv_iadd (q := 30) C dX6_replace_29 rfl ?_
      obtain ⟨g10, hm⟩ := cv_gd_s hm
      refine cv_iald (q := 31) C 2 0 rfl rfl (vp_in_iff.mpr g10) dX6_replace_30 rfl ?_
      refine cv_iload_n (i := 2) (q := 32) 3 C dX6_replace_31 rfl rfl rfl ?_
      refine cv_icmp_ne (tgt := 51) (q := 35) C dX6_replace_32 (by decide) rfl (fun h11 => ?_) (fun h11 => ?_)
      · have hm := cv_if_f h11 hm
        refine cv_iload (i := 4) (q := 53) 0 C dX6_replace_51 rfl rfl ?_
        refine cv_iconst (v := -1) (q := 54) C dX6_replace_53 (by decide) rfl ?_
        refine cv_icmp_eq (tgt := 70) (q := 57) C dX6_replace_54 (by decide) rfl (fun h12 => ?_) (fun h12 => ?_)
        · have hm := cv_if_t h12 hm
          obtain rfl := Option.some.inj hm
          refine cv_sub [1, 2, 4, 0] rfl ?_
          exact K4
        · have hm := cv_if_f h12 hm
          refine cv_aload_n (i := 0) (q := 58) 1 C dX6_replace_57 rfl rfl rfl ?_
          refine cv_get (q := 61) C iX6_replace_X6 0 rfl rfl 3 (by decide) (List.mem_of_getElem? (i := 3) rfl) rfl rfl dX6_replace_58 rfl ?_
          refine cv_bipush (v := 100) (q := 63) C dX6_replace_61 (by decide) rfl ?_
          refine cv_iload_n (i := 1) (q := 64) 2 C dX6_replace_63 rfl rfl rfl ?_
          refine cv_imul (q := 65) C dX6_replace_64 rfl ?_
          refine cv_iload (i := 4) (q := 67) 0 C dX6_replace_65 rfl rfl ?_
          refine cv_iadd (q := 68) C dX6_replace_67 rfl ?_
          refine cv_iload_n (i := 3) (q := 69) 4 C dX6_replace_68 rfl rfl rfl ?_
          obtain ⟨g13, hm⟩ := cv_gd_s hm
          obtain ⟨s14, es14, hm⟩ := cv_lt_s hm
          refine cv_iast (q := 70) (ws' := (wX6 q cy s14)) C 3 0 rfl rfl (vp_in_iff.mpr g13) dX6_replace_69 rfl (by rw [es14]; rfl) ?_
          obtain rfl := Option.some.inj hm
          refine cv_sub [1, 2, 4, 0] rfl ?_
          exact K4
      · have hm := cv_if_t h11 hm
        refine cv_aload_n (i := 0) (q := 36) 1 C dX6_replace_35 rfl rfl rfl ?_
        refine cv_get (q := 39) C iX6_replace_X6 0 rfl rfl 2 (by decide) (List.mem_of_getElem? (i := 2) rfl) rfl rfl dX6_replace_36 rfl ?_
        refine cv_bipush (v := 100) (q := 41) C dX6_replace_39 (by decide) rfl ?_
        refine cv_iload_n (i := 1) (q := 42) 2 C dX6_replace_41 rfl rfl rfl ?_
        refine cv_imul (q := 43) C dX6_replace_42 rfl ?_
        refine cv_iload (i := 4) (q := 45) 0 C dX6_replace_43 rfl rfl ?_
        refine cv_iadd (q := 46) C dX6_replace_45 rfl ?_
        refine cv_iload_n (i := 3) (q := 47) 4 C dX6_replace_46 rfl rfl rfl ?_
        obtain ⟨g15, hm⟩ := cv_gd_s hm
        obtain ⟨s16, es16, hm⟩ := cv_lt_s hm
        refine cv_iast (q := 48) (ws' := (wX6 q cy s16)) C 2 0 rfl rfl (vp_in_iff.mpr g15) dX6_replace_47 rfl (by rw [es16]; rfl) ?_
        refine cv_goto (tgt := 70) C dX6_replace_48 (by decide) ?_
        obtain rfl := Option.some.inj hm
        refine cv_sub [1, 2, 4, 0] rfl ?_
        exact K4
def fX6_pay (S : SX6) (a1 : Int32) (a2 : Int32) : Option (SX6) :=
  if a1 = 0 then
    (
    cv_lt (sX6_credit S ((gX6_credit S) + a2)) fun s2 =>
    if (gX6_lowest s2) ≤ (gX6_credit s2) then
      (
      cv_lt (sX6_lowest s2 (gX6_lowest s2)) fun s4 =>
      some s4
      )
    else
      (
      cv_lt (sX6_lowest s2 (gX6_credit s2)) fun s5 =>
      some s5
      )
    )
  else
    (
    some S
    )
abbrev rX6_pay : Room := { frames := 0, cells := 0, slots := 0, locals := 0 }
theorem iX6_pay_X6 : ∀ w ∈ u_ws RX6 TX6 50, w ∈ wsX6_pay := fun w h => List.mem_cons_of_mem _ (List.mem_append_right _ h)
set_option maxHeartbeats 4000000 in
set_option maxRecDepth 100000 in
theorem KX6_pay {l : Launch} {σ : Nat → Nat} {D : va_G} {cy : ClassId} (q : Nat → Nat) (S : SX6) (a1 : Int32) (a2 : Int32) {res : SX6} (hm : fX6_pay S a1 a2 = some res) : cv_M l yX6_pay wsX6_pay rX6_pay σ D [(cy, .int)] [.ref (q 0), .int a1, .int a2] (wX6 q cy S) none (wX6 q cy res) := by
  unfold fX6_pay at hm
  refine cv_M.of (own := RX6) (by decide +kernel) rfl rfl (lv := [(0, .ref (q 0)), (1, .int a1), (2, .int a2)]) rfl (Nat.le_of_ble_eq_true rfl) ?_
  intro p e s m args below meth c A C hr hk
  refine cv_iload_n (i := 1) (q := 1) 1 C dX6_pay_0 rfl rfl rfl ?_
  refine cv_if_ne (tgt := 40) (q := 4) C dX6_pay_1 (by decide) rfl (fun h1 => ?_) (fun h1 => ?_)
  · have hm := cv_if_f h1 hm
    obtain rfl := Option.some.inj hm
    exact cv_vret C hr hk dX6_pay_40
  · have hm := cv_if_t h1 hm
    refine cv_aload_n (i := 0) (q := 5) 0 C dX6_pay_4 rfl rfl rfl ?_
    refine cv_dup (q := 6) C dX6_pay_5 rfl rfl ?_
    refine cv_get (q := 9) C iX6_pay_X6 0 rfl rfl 19 (by decide) (List.mem_of_getElem? (i := 1) rfl) rfl rfl dX6_pay_6 rfl ?_
    refine cv_iload_n (i := 2) (q := 10) 2 C dX6_pay_9 rfl rfl rfl ?_
    refine cv_iadd (q := 11) C dX6_pay_10 rfl ?_
    obtain ⟨s2, es2, hm⟩ := cv_lt_s hm
    refine cv_put (q := 14) (ws' := (wX6 q cy s2)) C iX6_pay_X6 tyX6 tyX6_ok nmX6 0 rfl rfl 19 (by decide) (List.mem_of_getElem? (i := 1) rfl) rfl rfl rfl rfl rfl (Nat.le_of_ble_eq_true rfl) dX6_pay_11 rfl (by rw [es2]; rfl) ?_
    refine cv_aload_n (i := 0) (q := 15) 0 C dX6_pay_14 rfl rfl rfl ?_
    refine cv_aload_n (i := 0) (q := 16) 0 C dX6_pay_15 rfl rfl rfl ?_
    refine cv_get (q := 19) C iX6_pay_X6 0 rfl rfl 19 (by decide) (List.mem_of_getElem? (i := 1) rfl) rfl rfl dX6_pay_16 rfl ?_
    refine cv_aload_n (i := 0) (q := 20) 0 C dX6_pay_19 rfl rfl rfl ?_
    refine cv_get (q := 23) C iX6_pay_X6 0 rfl rfl 20 (by decide) (List.mem_of_getElem? (i := 2) rfl) rfl rfl dX6_pay_20 rfl ?_
    refine cv_icmp_ge (tgt := 33) (q := 26) C dX6_pay_23 (by decide) rfl (fun h3 => ?_) (fun h3 => ?_)
    · have hm := cv_if_t h3 hm
      refine cv_aload_n (i := 0) (q := 34) 0 C dX6_pay_33 rfl rfl rfl ?_
      refine cv_get (q := 37) C iX6_pay_X6 0 rfl rfl 20 (by decide) (List.mem_of_getElem? (i := 2) rfl) rfl rfl dX6_pay_34 rfl ?_
      obtain ⟨s4, es4, hm⟩ := cv_lt_s hm
      refine cv_put (q := 40) (ws' := (wX6 q cy s4)) C iX6_pay_X6 tyX6 tyX6_ok nmX6 0 rfl rfl 20 (by decide) (List.mem_of_getElem? (i := 2) rfl) rfl rfl rfl rfl rfl (Nat.le_of_ble_eq_true rfl) dX6_pay_37 rfl (by rw [es4]; rfl) ?_
      obtain rfl := Option.some.inj hm
      exact cv_vret C hr hk dX6_pay_40
    · have hm := cv_if_f h3 hm
      refine cv_aload_n (i := 0) (q := 27) 0 C dX6_pay_26 rfl rfl rfl ?_
      refine cv_get (q := 30) C iX6_pay_X6 0 rfl rfl 19 (by decide) (List.mem_of_getElem? (i := 1) rfl) rfl rfl dX6_pay_27 rfl ?_
      refine cv_goto (tgt := 37) C dX6_pay_30 (by decide) ?_
      obtain ⟨s5, es5, hm⟩ := cv_lt_s hm
      refine cv_put (q := 40) (ws' := (wX6 q cy s5)) C iX6_pay_X6 tyX6 tyX6_ok nmX6 0 rfl rfl 20 (by decide) (List.mem_of_getElem? (i := 2) rfl) rfl rfl rfl rfl rfl (Nat.le_of_ble_eq_true rfl) dX6_pay_37 rfl (by rw [es5]; rfl) ?_
      obtain rfl := Option.some.inj hm
      exact cv_vret C hr hk dX6_pay_40
def fX6_build_L88 (u1 : Int32) : Nat → Int32 → Int32 → SX6 → Option (SX6)
  | 0, _, _, _ => none
  | n + 1, y5, y6, S =>
    if y5 ≤ y6 then
      (
      some S
      )
    else
      (
      cv_gd (0 ≤ (y6).toInt ∧ (y6).toInt < 41) <|
      cv_lt (((gX6_spanLow S) (y6).toNatClampNeg)) fun x18 =>
      cv_gd (0 ≤ (y6).toInt ∧ (y6).toInt < 41) <|
      cv_lt (((gX6_spanHigh S) (y6).toNatClampNeg)) fun x20 =>
      cv_lt (((x18 + x20) / (2 : Int32))) fun x21 =>
      cv_gd (0 ≤ (x21).toInt ∧ (x21).toInt < 40) <|
      cv_lt (((gX6_row S) (x21).toNatClampNeg)) fun x23 =>
      cv_gd (0 ≤ (y6).toInt ∧ (y6).toInt < 41) <|
      cv_gd (0 ≤ ((((100 : Int32) * u1) + x23)).toInt ∧ ((((100 : Int32) * u1) + x23)).toInt < 200) <|
      cv_lt (sX6_above S (upd (gX6_above S) ((((100 : Int32) * u1) + x23)).toNatClampNeg ((gX6_spanOn S) (y6).toNatClampNeg))) fun s26 =>
      cv_bd (
        if x21 ≤ x18 then
          (
          some (-1 : Int32)
          )
        else
          (
          cv_gd (0 ≤ ((((x18 + x21) - (1 : Int32)) / (2 : Int32))).toInt ∧ ((((x18 + x21) - (1 : Int32)) / (2 : Int32))).toInt < 40) <|
          some ((gX6_row s26) ((((x18 + x21) - (1 : Int32)) / (2 : Int32))).toNatClampNeg)
          )
      ) fun j27 =>
      cv_gd (0 ≤ ((((100 : Int32) * u1) + x23)).toInt ∧ ((((100 : Int32) * u1) + x23)).toInt < 200) <|
      cv_lt (sX6_left s26 (upd (gX6_left s26) ((((100 : Int32) * u1) + x23)).toNatClampNeg j27)) fun s30 =>
      cv_bd (
        if x20 ≤ x21 then
          (
          some (-1 : Int32)
          )
        else
          (
          cv_gd (0 ≤ ((((x21 + (1 : Int32)) + x20) / (2 : Int32))).toInt ∧ ((((x21 + (1 : Int32)) + x20) / (2 : Int32))).toInt < 40) <|
          some ((gX6_row s30) ((((x21 + (1 : Int32)) + x20) / (2 : Int32))).toNatClampNeg)
          )
      ) fun j31 =>
      cv_gd (0 ≤ ((((100 : Int32) * u1) + x23)).toInt ∧ ((((100 : Int32) * u1) + x23)).toInt < 200) <|
      cv_lt (sX6_right s30 (upd (gX6_right s30) ((((100 : Int32) * u1) + x23)).toNatClampNeg j31)) fun s34 =>
      cv_bd (
        if x21 ≤ x18 then
          (
          some (y5, s34)
          )
        else
          (
          cv_gd (0 ≤ (y5).toInt ∧ (y5).toInt < 41) <|
          cv_lt (sX6_spanLow s34 (upd (gX6_spanLow s34) (y5).toNatClampNeg x18)) fun s50 =>
          cv_gd (0 ≤ (y5).toInt ∧ (y5).toInt < 41) <|
          cv_lt (sX6_spanHigh s50 (upd (gX6_spanHigh s50) (y5).toNatClampNeg (x21 - (1 : Int32)))) fun s52 =>
          cv_gd (0 ≤ (y5).toInt ∧ (y5).toInt < 41) <|
          cv_lt (sX6_spanOn s52 (upd (gX6_spanOn s52) (y5).toNatClampNeg x23)) fun s54 =>
          cv_lt (y5 + (1 : Int32)) fun x55 =>
          some (x55, s54)
          )
      ) fun j35 =>
      cv_bd (
        if x20 ≤ x21 then
          (
          some (j35.1, j35.2)
          )
        else
          (
          cv_gd (0 ≤ (j35.1).toInt ∧ (j35.1).toInt < 41) <|
          cv_lt (sX6_spanLow j35.2 (upd (gX6_spanLow j35.2) (j35.1).toNatClampNeg (x21 + (1 : Int32)))) fun s42 =>
          cv_gd (0 ≤ (j35.1).toInt ∧ (j35.1).toInt < 41) <|
          cv_lt (sX6_spanHigh s42 (upd (gX6_spanHigh s42) (j35.1).toNatClampNeg x20)) fun s44 =>
          cv_gd (0 ≤ (j35.1).toInt ∧ (j35.1).toInt < 41) <|
          cv_lt (sX6_spanOn s44 (upd (gX6_spanOn s44) (j35.1).toNatClampNeg x23)) fun s46 =>
          cv_lt (j35.1 + (1 : Int32)) fun x47 =>
          some (x47, s46)
          )
      ) fun j37 =>
      cv_lt (y6 + (1 : Int32)) fun x39 =>
      fX6_build_L88 u1 n j37.1 x39 j37.2
      )
def fX6_build (S : SX6) (a1 : Int32) (a2 : Int32) : Option (SX6) :=
  cv_bd (fX6_size S a1 a2) fun r1 =>
  cv_lt (sX6_builtNow S r1) fun s2 =>
  cv_bd (fX6_layRow s2 a1 a2) fun r3 =>
  cv_gd (0 ≤ ((((gX6_builtNow r3) - (1 : Int32)) / (2 : Int32))).toInt ∧ ((((gX6_builtNow r3) - (1 : Int32)) / (2 : Int32))).toInt < 40) <|
  cv_lt (((gX6_row r3) ((((gX6_builtNow r3) - (1 : Int32)) / (2 : Int32))).toNatClampNeg)) fun x5 =>
  cv_gd (0 ≤ ((((100 : Int32) * a1) + a2)).toInt ∧ ((((100 : Int32) * a1) + a2)).toInt < 200) <|
  cv_lt (((gX6_above r3) ((((100 : Int32) * a1) + a2)).toNatClampNeg)) fun x7 =>
  cv_bd (
    if x5 = a2 then
      (
      some r3
      )
    else
      (
      cv_bd (fX6_replace r3 a1 a2 x5) fun r70 =>
      some r70
      )
  ) fun j8 =>
  cv_gd (0 ≤ ((0 : Int32)).toInt ∧ ((0 : Int32)).toInt < 41) <|
  cv_lt (sX6_spanLow j8 (upd (gX6_spanLow j8) ((0 : Int32)).toNatClampNeg (0 : Int32))) fun s11 =>
  cv_gd (0 ≤ ((0 : Int32)).toInt ∧ ((0 : Int32)).toInt < 41) <|
  cv_lt (sX6_spanHigh s11 (upd (gX6_spanHigh s11) ((0 : Int32)).toNatClampNeg ((gX6_builtNow s11) - (1 : Int32)))) fun s13 =>
  cv_gd (0 ≤ ((0 : Int32)).toInt ∧ ((0 : Int32)).toInt < 41) <|
  cv_lt (sX6_spanOn s13 (upd (gX6_spanOn s13) ((0 : Int32)).toNatClampNeg x7)) fun s15 =>
  cv_bd (fX6_build_L88 a1 256 (1 : Int32) (0 : Int32) s15) fun j60 =>
  cv_gd (0 ≤ (a1).toInt ∧ (a1).toInt < 2) <|
  cv_gd (0 ≤ (a1).toInt ∧ (a1).toInt < 2) <|
  cv_lt (sX6_built j60 (upd (gX6_built j60) (a1).toNatClampNeg (((gX6_built j60) (a1).toNatClampNeg) + (1 : Int32)))) fun s64 =>
  cv_gd (0 ≤ (a1).toInt ∧ (a1).toInt < 2) <|
  cv_gd (0 ≤ (a1).toInt ∧ (a1).toInt < 2) <|
  cv_lt (sX6_cost s64 (upd (gX6_cost s64) (a1).toNatClampNeg (((gX6_cost s64) (a1).toNatClampNeg) + (gX6_builtNow s64)))) fun s67 =>
  cv_bd (fX6_pay s67 a1 ((0 : Int32) - (gX6_builtNow s67))) fun r68 =>
  some r68
abbrev rX6_build : Room := { frames := 2, cells := 0, slots := 0, locals := 48 }
theorem iX6_build_X6 : ∀ w ∈ u_ws RX6 TX6 50, w ∈ wsX6_build := fun w h => List.mem_cons_of_mem _ (List.mem_append_right _ h)
set_option maxHeartbeats 4000000 in
set_option maxRecDepth 100000 in
theorem vX6_build_L88 {p : Program} {l : Launch} {e : Env} {s : State} {m : MethodId} {args : Array Value} {below : List Frame} {meth : Method} {c : Code} {σ : Nat → Nat} {D : va_G} {A : Nat → Prop} {cy : ClassId} (q : Nat → Nat) (u1 : Int32) (C : cv_C p s m args c cX6_build 11 RX6 wsX6_build σ D [(cy, .int)] A) {Q : State → Prop} {j : SX6} : ∀ (n : Nat) (y5 : Int32) (y6 : Int32) (S : SX6), fX6_build_L88 u1 n y5 y6 S = some j → cv_V p l e rX6_build s m args below meth c 11 D A Q 0 0 (wX6 q cy j) 308 [(0, .ref (q 0)), (1, .int u1)] [] → cv_V p l e rX6_build s m args below meth c 11 D A Q 0 0 (wX6 q cy S) 88 [(0, .ref (q 0)), (1, .int u1), (5, .int y5), (6, .int y6)] [] := by
  intro n
  induction n with
  | zero => intro y5 y6 S hm kx; cases hm
  | succ n ih =>
    intro y5 y6 S hm kx
    have hm : fX6_build_L88 u1 (n + 1) y5 y6 S = some j := hm
    unfold fX6_build_L88 at hm
    refine cv_iload (i := 6) (q := 90) 3 C dX6_build_88 rfl rfl ?_
    refine cv_iload (i := 5) (q := 92) 2 C dX6_build_90 rfl rfl ?_
    refine cv_icmp_ge (tgt := 308) (q := 95) C dX6_build_92 (by decide) rfl (fun h16 => ?_) (fun h16 => ?_)
    · have hm := cv_if_t h16 hm
      obtain rfl := Option.some.inj hm
      refine cv_sub [0, 1] rfl ?_
      exact kx
    · have hm := cv_if_f h16 hm
      refine cv_aload_n (i := 0) (q := 96) 0 C dX6_build_95 rfl rfl rfl ?_
      refine cv_get (q := 99) C iX6_build_X6 0 rfl rfl 25 (by decide) (List.mem_of_getElem? (i := 4) rfl) rfl rfl dX6_build_96 rfl ?_
      refine cv_iload (i := 6) (q := 101) 3 C dX6_build_99 rfl rfl ?_
      obtain ⟨g17, hm⟩ := cv_gd_s hm
      refine cv_iald (q := 102) C 15 0 rfl rfl (vp_in_iff.mpr g17) dX6_build_101 rfl ?_
      obtain ⟨x18, ex18, hm⟩ := cv_lt_s hm
      refine cv_topi ex18 ?_
      refine cv_istore (i := 7) (lv' := [(7, .int x18), (0, .ref (q 0)), (1, .int u1), (5, .int y5), (6, .int y6)]) (q := 104) C dX6_build_102 (by decide) rfl rfl ?_
      refine cv_aload_n (i := 0) (q := 105) 1 C dX6_build_104 rfl rfl rfl ?_
      refine cv_get (q := 108) C iX6_build_X6 0 rfl rfl 26 (by decide) (List.mem_of_getElem? (i := 5) rfl) rfl rfl dX6_build_105 rfl ?_
      refine cv_iload (i := 6) (q := 110) 4 C dX6_build_108 rfl rfl ?_
      obtain ⟨g19, hm⟩ := cv_gd_s hm
      refine cv_iald (q := 111) C 16 0 rfl rfl (vp_in_iff.mpr g19) dX6_build_110 rfl ?_
      obtain ⟨x20, ex20, hm⟩ := cv_lt_s hm
      refine cv_topi ex20 ?_
      refine cv_istore (i := 8) (lv' := [(8, .int x20), (7, .int x18), (0, .ref (q 0)), (1, .int u1), (5, .int y5), (6, .int y6)]) (q := 113) C dX6_build_111 (by decide) rfl rfl ?_
      refine cv_iload (i := 7) (q := 115) 1 C dX6_build_113 rfl rfl ?_
      refine cv_iload (i := 8) (q := 117) 0 C dX6_build_115 rfl rfl ?_
      refine cv_iadd (q := 118) C dX6_build_117 rfl ?_
      refine cv_iconst (v := 2) (q := 119) C dX6_build_118 (by decide) rfl ?_
      refine cv_idiv (q := 120) C dX6_build_119 (by decide) rfl ?_
      obtain ⟨x21, ex21, hm⟩ := cv_lt_s hm
      refine cv_topi ex21 ?_
      refine cv_istore (i := 9) (lv' := [(9, .int x21), (8, .int x20), (7, .int x18), (0, .ref (q 0)), (1, .int u1), (5, .int y5), (6, .int y6)]) (q := 122) C dX6_build_120 (by decide) rfl rfl ?_
      refine cv_aload_n (i := 0) (q := 123) 3 C dX6_build_122 rfl rfl rfl ?_
      refine cv_get (q := 126) C iX6_build_X6 0 rfl rfl 24 (by decide) (List.mem_of_getElem? (i := 2) rfl) rfl rfl dX6_build_123 rfl ?_
      refine cv_iload (i := 9) (q := 128) 0 C dX6_build_126 rfl rfl ?_
      obtain ⟨g22, hm⟩ := cv_gd_s hm
      refine cv_iald (q := 129) C 14 0 rfl rfl (vp_in_iff.mpr g22) dX6_build_128 rfl ?_
      obtain ⟨x23, ex23, hm⟩ := cv_lt_s hm
      refine cv_topi ex23 ?_
      refine cv_istore (i := 10) (lv' := [(10, .int x23), (9, .int x21), (8, .int x20), (7, .int x18), (0, .ref (q 0)), (1, .int u1), (5, .int y5), (6, .int y6)]) (q := 131) C dX6_build_129 (by decide) rfl rfl ?_
      refine cv_aload_n (i := 0) (q := 132) 4 C dX6_build_131 rfl rfl rfl ?_
      refine cv_get (q := 135) C iX6_build_X6 0 rfl rfl 4 (by decide) (List.mem_of_getElem? (i := 3) rfl) rfl rfl dX6_build_132 rfl ?_
      refine cv_bipush (v := 100) (q := 137) C dX6_build_135 (by decide) rfl ?_
      refine cv_iload_n (i := 1) (q := 138) 5 C dX6_build_137 rfl rfl rfl ?_
      refine cv_imul (q := 139) C dX6_build_138 rfl ?_
      refine cv_iload (i := 10) (q := 141) 0 C dX6_build_139 rfl rfl ?_
      refine cv_iadd (q := 142) C dX6_build_141 rfl ?_
      refine cv_aload_n (i := 0) (q := 143) 4 C dX6_build_142 rfl rfl rfl ?_
      refine cv_get (q := 146) C iX6_build_X6 0 rfl rfl 27 (by decide) (List.mem_of_getElem? (i := 6) rfl) rfl rfl dX6_build_143 rfl ?_
      refine cv_iload (i := 6) (q := 148) 7 C dX6_build_146 rfl rfl ?_
      obtain ⟨g24, hm⟩ := cv_gd_s hm
      refine cv_iald (q := 149) C 17 0 rfl rfl (vp_in_iff.mpr g24) dX6_build_148 rfl ?_
      obtain ⟨g25, hm⟩ := cv_gd_s hm
      obtain ⟨s26, es26, hm⟩ := cv_lt_s hm
      refine cv_iast (q := 150) (ws' := (wX6 q cy s26)) C 4 0 rfl rfl (vp_in_iff.mpr g25) dX6_build_149 rfl (by rw [es26]; rfl) ?_
      refine cv_aload_n (i := 0) (q := 151) 4 C dX6_build_150 rfl rfl rfl ?_
      refine cv_get (q := 154) C iX6_build_X6 0 rfl rfl 2 (by decide) (List.mem_of_getElem? (i := 7) rfl) rfl rfl dX6_build_151 rfl ?_
      refine cv_bipush (v := 100) (q := 156) C dX6_build_154 (by decide) rfl ?_
      refine cv_iload_n (i := 1) (q := 157) 5 C dX6_build_156 rfl rfl rfl ?_
      refine cv_imul (q := 158) C dX6_build_157 rfl ?_
      refine cv_iload (i := 10) (q := 160) 0 C dX6_build_158 rfl rfl ?_
      refine cv_iadd (q := 161) C dX6_build_160 rfl ?_
      refine cv_iload (i := 7) (q := 163) 3 C dX6_build_161 rfl rfl ?_
      refine cv_iload (i := 9) (q := 165) 1 C dX6_build_163 rfl rfl ?_
      obtain ⟨j27, hj27, hm⟩ := cv_bd_s hm
      refine cv_cut (ws' := (wX6 q cy s26)) (pc' := 186) (lv' := [(0, .ref (q 0)), (1, .int u1), (5, .int y5), (6, .int y6), (7, .int x18), (8, .int x20), (9, .int x21), (10, .int x23)]) (st' := [.int j27, .int (((100 : Int32) * u1) + x23), .ref (q 2)]) ?_ (fun K28 => ?_)
      · obtain ⟨g29, hm⟩ := cv_gd_s hm
        obtain ⟨s30, es30, hm⟩ := cv_lt_s hm
        refine cv_iast (q := 187) (ws' := (wX6 q cy s30)) C 2 0 rfl rfl (vp_in_iff.mpr g29) dX6_build_186 rfl (by rw [es30]; rfl) ?_
        refine cv_aload_n (i := 0) (q := 188) 0 C dX6_build_187 rfl rfl rfl ?_
        refine cv_get (q := 191) C iX6_build_X6 0 rfl rfl 3 (by decide) (List.mem_of_getElem? (i := 8) rfl) rfl rfl dX6_build_188 rfl ?_
        refine cv_bipush (v := 100) (q := 193) C dX6_build_191 (by decide) rfl ?_
        refine cv_iload_n (i := 1) (q := 194) 1 C dX6_build_193 rfl rfl rfl ?_
        refine cv_imul (q := 195) C dX6_build_194 rfl ?_
        refine cv_iload (i := 10) (q := 197) 7 C dX6_build_195 rfl rfl ?_
        refine cv_iadd (q := 198) C dX6_build_197 rfl ?_
        refine cv_iload (i := 9) (q := 200) 6 C dX6_build_198 rfl rfl ?_
        refine cv_iload (i := 8) (q := 202) 5 C dX6_build_200 rfl rfl ?_
        obtain ⟨j31, hj31, hm⟩ := cv_bd_s hm
        refine cv_cut (ws' := (wX6 q cy s30)) (pc' := 223) (lv' := [(0, .ref (q 0)), (1, .int u1), (5, .int y5), (6, .int y6), (7, .int x18), (8, .int x20), (9, .int x21), (10, .int x23)]) (st' := [.int j31, .int (((100 : Int32) * u1) + x23), .ref (q 3)]) ?_ (fun K32 => ?_)
        · obtain ⟨g33, hm⟩ := cv_gd_s hm
          obtain ⟨s34, es34, hm⟩ := cv_lt_s hm
          refine cv_iast (q := 224) (ws' := (wX6 q cy s34)) C 3 0 rfl rfl (vp_in_iff.mpr g33) dX6_build_223 rfl (by rw [es34]; rfl) ?_
          refine cv_iload (i := 7) (q := 226) 4 C dX6_build_224 rfl rfl ?_
          refine cv_iload (i := 9) (q := 228) 6 C dX6_build_226 rfl rfl ?_
          obtain ⟨j35, hj35, hm⟩ := cv_bd_s hm
          refine cv_cut (ws' := (wX6 q cy j35.2)) (pc' := 263) (lv' := [(0, .ref (q 0)), (1, .int u1), (5, .int j35.1), (6, .int y6), (8, .int x20), (9, .int x21), (10, .int x23)]) (st' := []) ?_ (fun K36 => ?_)
          · refine cv_iload (i := 9) (q := 265) 5 C dX6_build_263 rfl rfl ?_
            refine cv_iload (i := 8) (q := 267) 4 C dX6_build_265 rfl rfl ?_
            obtain ⟨j37, hj37, hm⟩ := cv_bd_s hm
            refine cv_cut (ws' := (wX6 q cy j37.2)) (pc' := 302) (lv' := [(0, .ref (q 0)), (1, .int u1), (5, .int j37.1), (6, .int y6)]) (st' := []) ?_ (fun K38 => ?_)
            · obtain ⟨x39, ex39, hm⟩ := cv_lt_s hm
              refine cv_iinc (v := x39) (lv' := [(6, .int x39), (0, .ref (q 0)), (1, .int u1), (5, .int j37.1)]) (q := 305) 3 C dX6_build_302 rfl (by rw [ex39]; rfl) (by decide) rfl rfl ?_
              refine cv_goto (tgt := 88) C dX6_build_305 (by decide) ?_
              refine cv_sub [1, 2, 3, 0] rfl ?_
              exact ih j37.1 x39 j37.2 hm kx
            · have hm := hj37
              refine cv_icmp_ge (tgt := 302) (q := 270) C dX6_build_267 (by decide) rfl (fun h40 => ?_) (fun h40 => ?_)
              · have hm := cv_if_t h40 hm
                obtain rfl := Option.some.inj hm
                refine cv_sub [0, 1, 2, 3] rfl ?_
                exact K38
              · have hm := cv_if_f h40 hm
                refine cv_aload_n (i := 0) (q := 271) 0 C dX6_build_270 rfl rfl rfl ?_
                refine cv_get (q := 274) C iX6_build_X6 0 rfl rfl 25 (by decide) (List.mem_of_getElem? (i := 4) rfl) rfl rfl dX6_build_271 rfl ?_
                refine cv_iload (i := 5) (q := 276) 2 C dX6_build_274 rfl rfl ?_
                refine cv_iload (i := 9) (q := 278) 5 C dX6_build_276 rfl rfl ?_
                refine cv_iconst (v := 1) (q := 279) C dX6_build_278 (by decide) rfl ?_
                refine cv_iadd (q := 280) C dX6_build_279 rfl ?_
                obtain ⟨g41, hm⟩ := cv_gd_s hm
                obtain ⟨s42, es42, hm⟩ := cv_lt_s hm
                refine cv_iast (q := 281) (ws' := (wX6 q cy s42)) C 15 0 rfl rfl (vp_in_iff.mpr g41) dX6_build_280 rfl (by rw [es42]; rfl) ?_
                refine cv_aload_n (i := 0) (q := 282) 0 C dX6_build_281 rfl rfl rfl ?_
                refine cv_get (q := 285) C iX6_build_X6 0 rfl rfl 26 (by decide) (List.mem_of_getElem? (i := 5) rfl) rfl rfl dX6_build_282 rfl ?_
                refine cv_iload (i := 5) (q := 287) 2 C dX6_build_285 rfl rfl ?_
                refine cv_iload (i := 8) (q := 289) 4 C dX6_build_287 rfl rfl ?_
                obtain ⟨g43, hm⟩ := cv_gd_s hm
                obtain ⟨s44, es44, hm⟩ := cv_lt_s hm
                refine cv_iast (q := 290) (ws' := (wX6 q cy s44)) C 16 0 rfl rfl (vp_in_iff.mpr g43) dX6_build_289 rfl (by rw [es44]; rfl) ?_
                refine cv_aload_n (i := 0) (q := 291) 0 C dX6_build_290 rfl rfl rfl ?_
                refine cv_get (q := 294) C iX6_build_X6 0 rfl rfl 27 (by decide) (List.mem_of_getElem? (i := 6) rfl) rfl rfl dX6_build_291 rfl ?_
                refine cv_iload (i := 5) (q := 296) 2 C dX6_build_294 rfl rfl ?_
                refine cv_iload (i := 10) (q := 298) 6 C dX6_build_296 rfl rfl ?_
                obtain ⟨g45, hm⟩ := cv_gd_s hm
                obtain ⟨s46, es46, hm⟩ := cv_lt_s hm
                refine cv_iast (q := 299) (ws' := (wX6 q cy s46)) C 17 0 rfl rfl (vp_in_iff.mpr g45) dX6_build_298 rfl (by rw [es46]; rfl) ?_
                obtain ⟨x47, ex47, hm⟩ := cv_lt_s hm
                refine cv_iinc (v := x47) (lv' := [(5, .int x47), (0, .ref (q 0)), (1, .int u1), (6, .int y6), (8, .int x20), (9, .int x21), (10, .int x23)]) (q := 302) 2 C dX6_build_299 rfl (by rw [ex47]; rfl) (by decide) rfl rfl ?_
                obtain rfl := Option.some.inj hm
                refine cv_sub [1, 2, 0, 3] rfl ?_
                exact K38
          · have hm := hj35
            refine cv_icmp_ge (tgt := 263) (q := 231) C dX6_build_228 (by decide) rfl (fun h48 => ?_) (fun h48 => ?_)
            · have hm := cv_if_t h48 hm
              obtain rfl := Option.some.inj hm
              refine cv_sub [0, 1, 2, 3, 5, 6, 7] rfl ?_
              exact K36
            · have hm := cv_if_f h48 hm
              refine cv_aload_n (i := 0) (q := 232) 0 C dX6_build_231 rfl rfl rfl ?_
              refine cv_get (q := 235) C iX6_build_X6 0 rfl rfl 25 (by decide) (List.mem_of_getElem? (i := 4) rfl) rfl rfl dX6_build_232 rfl ?_
              refine cv_iload (i := 5) (q := 237) 2 C dX6_build_235 rfl rfl ?_
              refine cv_iload (i := 7) (q := 239) 4 C dX6_build_237 rfl rfl ?_
              obtain ⟨g49, hm⟩ := cv_gd_s hm
              obtain ⟨s50, es50, hm⟩ := cv_lt_s hm
              refine cv_iast (q := 240) (ws' := (wX6 q cy s50)) C 15 0 rfl rfl (vp_in_iff.mpr g49) dX6_build_239 rfl (by rw [es50]; rfl) ?_
              refine cv_aload_n (i := 0) (q := 241) 0 C dX6_build_240 rfl rfl rfl ?_
              refine cv_get (q := 244) C iX6_build_X6 0 rfl rfl 26 (by decide) (List.mem_of_getElem? (i := 5) rfl) rfl rfl dX6_build_241 rfl ?_
              refine cv_iload (i := 5) (q := 246) 2 C dX6_build_244 rfl rfl ?_
              refine cv_iload (i := 9) (q := 248) 6 C dX6_build_246 rfl rfl ?_
              refine cv_iconst (v := 1) (q := 249) C dX6_build_248 (by decide) rfl ?_
              refine cv_isub (q := 250) C dX6_build_249 rfl ?_
              obtain ⟨g51, hm⟩ := cv_gd_s hm
              obtain ⟨s52, es52, hm⟩ := cv_lt_s hm
              refine cv_iast (q := 251) (ws' := (wX6 q cy s52)) C 16 0 rfl rfl (vp_in_iff.mpr g51) dX6_build_250 rfl (by rw [es52]; rfl) ?_
              refine cv_aload_n (i := 0) (q := 252) 0 C dX6_build_251 rfl rfl rfl ?_
              refine cv_get (q := 255) C iX6_build_X6 0 rfl rfl 27 (by decide) (List.mem_of_getElem? (i := 6) rfl) rfl rfl dX6_build_252 rfl ?_
              refine cv_iload (i := 5) (q := 257) 2 C dX6_build_255 rfl rfl ?_
              refine cv_iload (i := 10) (q := 259) 7 C dX6_build_257 rfl rfl ?_
              obtain ⟨g53, hm⟩ := cv_gd_s hm
              obtain ⟨s54, es54, hm⟩ := cv_lt_s hm
              refine cv_iast (q := 260) (ws' := (wX6 q cy s54)) C 17 0 rfl rfl (vp_in_iff.mpr g53) dX6_build_259 rfl (by rw [es54]; rfl) ?_
              obtain ⟨x55, ex55, hm⟩ := cv_lt_s hm
              refine cv_iinc (v := x55) (lv' := [(5, .int x55), (0, .ref (q 0)), (1, .int u1), (6, .int y6), (7, .int x18), (8, .int x20), (9, .int x21), (10, .int x23)]) (q := 263) 2 C dX6_build_260 rfl (by rw [ex55]; rfl) (by decide) rfl rfl ?_
              obtain rfl := Option.some.inj hm
              refine cv_sub [1, 2, 0, 3, 5, 6, 7] rfl ?_
              exact K36
        · have hm := hj31
          refine cv_icmp_ge (tgt := 222) (q := 205) C dX6_build_202 (by decide) rfl (fun h56 => ?_) (fun h56 => ?_)
          · have hm := cv_if_t h56 hm
            refine cv_iconst (v := -1) (q := 223) C dX6_build_222 (by decide) rfl ?_
            obtain rfl := Option.some.inj hm
            exact K32
          · have hm := cv_if_f h56 hm
            refine cv_aload_n (i := 0) (q := 206) 0 C dX6_build_205 rfl rfl rfl ?_
            refine cv_get (q := 209) C iX6_build_X6 0 rfl rfl 24 (by decide) (List.mem_of_getElem? (i := 2) rfl) rfl rfl dX6_build_206 rfl ?_
            refine cv_iload (i := 9) (q := 211) 6 C dX6_build_209 rfl rfl ?_
            refine cv_iconst (v := 1) (q := 212) C dX6_build_211 (by decide) rfl ?_
            refine cv_iadd (q := 213) C dX6_build_212 rfl ?_
            refine cv_iload (i := 8) (q := 215) 5 C dX6_build_213 rfl rfl ?_
            refine cv_iadd (q := 216) C dX6_build_215 rfl ?_
            refine cv_iconst (v := 2) (q := 217) C dX6_build_216 (by decide) rfl ?_
            refine cv_idiv (q := 218) C dX6_build_217 (by decide) rfl ?_
            obtain ⟨g57, hm⟩ := cv_gd_s hm
            refine cv_iald (q := 219) C 14 0 rfl rfl (vp_in_iff.mpr g57) dX6_build_218 rfl ?_
            refine cv_goto (tgt := 223) C dX6_build_219 (by decide) ?_
            obtain rfl := Option.some.inj hm
            exact K32
      · have hm := hj27
        refine cv_icmp_ge (tgt := 185) (q := 168) C dX6_build_165 (by decide) rfl (fun h58 => ?_) (fun h58 => ?_)
        · have hm := cv_if_t h58 hm
          refine cv_iconst (v := -1) (q := 186) C dX6_build_185 (by decide) rfl ?_
          obtain rfl := Option.some.inj hm
          refine cv_sub [4, 5, 6, 7, 3, 2, 1, 0] rfl ?_
          exact K28
        · have hm := cv_if_f h58 hm
          refine cv_aload_n (i := 0) (q := 169) 4 C dX6_build_168 rfl rfl rfl ?_
          refine cv_get (q := 172) C iX6_build_X6 0 rfl rfl 24 (by decide) (List.mem_of_getElem? (i := 2) rfl) rfl rfl dX6_build_169 rfl ?_
          refine cv_iload (i := 7) (q := 174) 3 C dX6_build_172 rfl rfl ?_
          refine cv_iload (i := 9) (q := 176) 1 C dX6_build_174 rfl rfl ?_
          refine cv_iadd (q := 177) C dX6_build_176 rfl ?_
          refine cv_iconst (v := 1) (q := 178) C dX6_build_177 (by decide) rfl ?_
          refine cv_isub (q := 179) C dX6_build_178 rfl ?_
          refine cv_iconst (v := 2) (q := 180) C dX6_build_179 (by decide) rfl ?_
          refine cv_idiv (q := 181) C dX6_build_180 (by decide) rfl ?_
          obtain ⟨g59, hm⟩ := cv_gd_s hm
          refine cv_iald (q := 182) C 14 0 rfl rfl (vp_in_iff.mpr g59) dX6_build_181 rfl ?_
          refine cv_goto (tgt := 186) C dX6_build_182 (by decide) ?_
          obtain rfl := Option.some.inj hm
          refine cv_sub [4, 5, 6, 7, 3, 2, 1, 0] rfl ?_
          exact K28
set_option maxHeartbeats 4000000 in
set_option maxRecDepth 100000 in
theorem KX6_build {l : Launch} {σ : Nat → Nat} {D : va_G} {cy : ClassId} (q : Nat → Nat) (S : SX6) (a1 : Int32) (a2 : Int32) {res : SX6} (hm : fX6_build S a1 a2 = some res) : cv_M l yX6_build wsX6_build rX6_build σ D [(cy, .int)] [.ref (q 0), .int a1, .int a2] (wX6 q cy S) none (wX6 q cy res) := by
  unfold fX6_build at hm
  refine cv_M.of (own := RX6) (by decide +kernel) rfl rfl (lv := [(0, .ref (q 0)), (1, .int a1), (2, .int a2)]) rfl (Nat.le_of_ble_eq_true rfl) ?_
  intro p e s m args below meth c A C hr hk
  refine cv_aload_n (i := 0) (q := 1) 0 C dX6_build_0 rfl rfl rfl ?_
  refine cv_aload_n (i := 0) (q := 2) 0 C dX6_build_1 rfl rfl rfl ?_
  refine cv_iload_n (i := 1) (q := 3) 1 C dX6_build_2 rfl rfl rfl ?_
  refine cv_iload_n (i := 2) (q := 4) 2 C dX6_build_3 rfl rfl rfl ?_
  obtain ⟨r1, hr1, hm⟩ := cv_bd_s hm
  refine cv_goW (q := 7) C (KX6_size (l := l) (σ := σ) (D := D) (cy := cy)  q  S a1 a2 hr1) (cv_rv (As := [.int a1, .int a2]) (st := [.ref (q 0)]) (n := 2) (q0 := 0) (ci := 6) C (KX6_size (l := l) (σ := σ) (D := D) (cy := cy)  q  S a1 a2 hr1) rfl rfl gX6_build_X6_size rfl ⟨rfl, rfl⟩ (by decide +kernel) rfl ⟨Nat.le_of_ble_eq_true rfl, Nat.le_of_ble_eq_true rfl⟩ rfl (Nat.le_of_ble_eq_true rfl) dX6_build_4 ⟨Nat.zero_le _, Nat.zero_le _⟩) rfl ?_
  obtain ⟨s2, es2, hm⟩ := cv_lt_s hm
  refine cv_put (q := 10) (ws' := (wX6 q cy s2)) C iX6_build_X6 tyX6 tyX6_ok nmX6 0 rfl rfl 9 (by decide) (List.mem_of_getElem? (i := 1) rfl) rfl rfl rfl rfl rfl (Nat.le_of_ble_eq_true rfl) dX6_build_7 rfl (by rw [es2]; rfl) ?_
  refine cv_aload_n (i := 0) (q := 11) 0 C dX6_build_10 rfl rfl rfl ?_
  refine cv_iload_n (i := 1) (q := 12) 1 C dX6_build_11 rfl rfl rfl ?_
  refine cv_iload_n (i := 2) (q := 13) 2 C dX6_build_12 rfl rfl rfl ?_
  obtain ⟨r3, hr3, hm⟩ := cv_bd_s hm
  refine cv_goW (q := 16) C (KX6_layRow (l := l) (σ := σ) (D := D) (cy := cy)  q  s2 a1 a2 hr3) (cv_rv (As := [.int a1, .int a2]) (st := []) (n := 2) (q0 := 0) (ci := 6) C (KX6_layRow (l := l) (σ := σ) (D := D) (cy := cy)  q  s2 a1 a2 hr3) rfl rfl gX6_build_X6_layRow rfl ⟨rfl, rfl⟩ (by decide +kernel) rfl ⟨Nat.le_of_ble_eq_true rfl, Nat.le_of_ble_eq_true rfl⟩ rfl (Nat.le_of_ble_eq_true rfl) dX6_build_13 ⟨Nat.zero_le _, Nat.zero_le _⟩) rfl ?_
  refine cv_aload_n (i := 0) (q := 17) 0 C dX6_build_16 rfl rfl rfl ?_
  refine cv_get (q := 20) C iX6_build_X6 0 rfl rfl 24 (by decide) (List.mem_of_getElem? (i := 2) rfl) rfl rfl dX6_build_17 rfl ?_
  refine cv_aload_n (i := 0) (q := 21) 0 C dX6_build_20 rfl rfl rfl ?_
  refine cv_get (q := 24) C iX6_build_X6 0 rfl rfl 9 (by decide) (List.mem_of_getElem? (i := 1) rfl) rfl rfl dX6_build_21 rfl ?_
  refine cv_iconst (v := 1) (q := 25) C dX6_build_24 (by decide) rfl ?_
  refine cv_isub (q := 26) C dX6_build_25 rfl ?_
  refine cv_iconst (v := 2) (q := 27) C dX6_build_26 (by decide) rfl ?_
  refine cv_idiv (q := 28) C dX6_build_27 (by decide) rfl ?_
  obtain ⟨g4, hm⟩ := cv_gd_s hm
  refine cv_iald (q := 29) C 14 0 rfl rfl (vp_in_iff.mpr g4) dX6_build_28 rfl ?_
  obtain ⟨x5, ex5, hm⟩ := cv_lt_s hm
  refine cv_topi ex5 ?_
  refine cv_istore_n (i := 3) (lv' := [(3, .int x5), (0, .ref (q 0)), (1, .int a1), (2, .int a2)]) (q := 30) C dX6_build_29 rfl (by decide) rfl rfl ?_
  refine cv_aload_n (i := 0) (q := 31) 1 C dX6_build_30 rfl rfl rfl ?_
  refine cv_get (q := 34) C iX6_build_X6 0 rfl rfl 4 (by decide) (List.mem_of_getElem? (i := 3) rfl) rfl rfl dX6_build_31 rfl ?_
  refine cv_bipush (v := 100) (q := 36) C dX6_build_34 (by decide) rfl ?_
  refine cv_iload_n (i := 1) (q := 37) 2 C dX6_build_36 rfl rfl rfl ?_
  refine cv_imul (q := 38) C dX6_build_37 rfl ?_
  refine cv_iload_n (i := 2) (q := 39) 3 C dX6_build_38 rfl rfl rfl ?_
  refine cv_iadd (q := 40) C dX6_build_39 rfl ?_
  obtain ⟨g6, hm⟩ := cv_gd_s hm
  refine cv_iald (q := 41) C 4 0 rfl rfl (vp_in_iff.mpr g6) dX6_build_40 rfl ?_
  obtain ⟨x7, ex7, hm⟩ := cv_lt_s hm
  refine cv_topi ex7 ?_
  refine cv_istore (i := 4) (lv' := [(4, .int x7), (3, .int x5), (0, .ref (q 0)), (1, .int a1), (2, .int a2)]) (q := 43) C dX6_build_41 (by decide) rfl rfl ?_
  refine cv_iload_n (i := 3) (q := 44) 1 C dX6_build_43 rfl rfl rfl ?_
  refine cv_iload_n (i := 2) (q := 45) 4 C dX6_build_44 rfl rfl rfl ?_
  obtain ⟨j8, hj8, hm⟩ := cv_bd_s hm
  refine cv_cut (ws' := (wX6 q cy j8)) (pc' := 55) (lv' := [(0, .ref (q 0)), (1, .int a1), (4, .int x7)]) (st' := []) ?_ (fun K9 => ?_)
  · refine cv_iconst (v := 1) (q := 56) C dX6_build_55 (by decide) rfl ?_
    refine cv_istore (i := 5) (lv' := [(5, .int (1 : Int32)), (0, .ref (q 0)), (1, .int a1), (4, .int x7)]) (q := 58) C dX6_build_56 (by decide) rfl rfl ?_
    refine cv_aload_n (i := 0) (q := 59) 1 C dX6_build_58 rfl rfl rfl ?_
    refine cv_get (q := 62) C iX6_build_X6 0 rfl rfl 25 (by decide) (List.mem_of_getElem? (i := 4) rfl) rfl rfl dX6_build_59 rfl ?_
    refine cv_iconst (v := 0) (q := 63) C dX6_build_62 (by decide) rfl ?_
    refine cv_iconst (v := 0) (q := 64) C dX6_build_63 (by decide) rfl ?_
    obtain ⟨g10, hm⟩ := cv_gd_s hm
    obtain ⟨s11, es11, hm⟩ := cv_lt_s hm
    refine cv_iast (q := 65) (ws' := (wX6 q cy s11)) C 15 0 rfl rfl (vp_in_iff.mpr g10) dX6_build_64 rfl (by rw [es11]; rfl) ?_
    refine cv_aload_n (i := 0) (q := 66) 1 C dX6_build_65 rfl rfl rfl ?_
    refine cv_get (q := 69) C iX6_build_X6 0 rfl rfl 26 (by decide) (List.mem_of_getElem? (i := 5) rfl) rfl rfl dX6_build_66 rfl ?_
    refine cv_iconst (v := 0) (q := 70) C dX6_build_69 (by decide) rfl ?_
    refine cv_aload_n (i := 0) (q := 71) 1 C dX6_build_70 rfl rfl rfl ?_
    refine cv_get (q := 74) C iX6_build_X6 0 rfl rfl 9 (by decide) (List.mem_of_getElem? (i := 1) rfl) rfl rfl dX6_build_71 rfl ?_
    refine cv_iconst (v := 1) (q := 75) C dX6_build_74 (by decide) rfl ?_
    refine cv_isub (q := 76) C dX6_build_75 rfl ?_
    obtain ⟨g12, hm⟩ := cv_gd_s hm
    obtain ⟨s13, es13, hm⟩ := cv_lt_s hm
    refine cv_iast (q := 77) (ws' := (wX6 q cy s13)) C 16 0 rfl rfl (vp_in_iff.mpr g12) dX6_build_76 rfl (by rw [es13]; rfl) ?_
    refine cv_aload_n (i := 0) (q := 78) 1 C dX6_build_77 rfl rfl rfl ?_
    refine cv_get (q := 81) C iX6_build_X6 0 rfl rfl 27 (by decide) (List.mem_of_getElem? (i := 6) rfl) rfl rfl dX6_build_78 rfl ?_
    refine cv_iconst (v := 0) (q := 82) C dX6_build_81 (by decide) rfl ?_
    refine cv_iload (i := 4) (q := 84) 3 C dX6_build_82 rfl rfl ?_
    obtain ⟨g14, hm⟩ := cv_gd_s hm
    obtain ⟨s15, es15, hm⟩ := cv_lt_s hm
    refine cv_iast (q := 85) (ws' := (wX6 q cy s15)) C 17 0 rfl rfl (vp_in_iff.mpr g14) dX6_build_84 rfl (by rw [es15]; rfl) ?_
    refine cv_iconst (v := 0) (q := 86) C dX6_build_85 (by decide) rfl ?_
    refine cv_istore (i := 6) (lv' := [(6, .int (0 : Int32)), (5, .int (1 : Int32)), (0, .ref (q 0)), (1, .int a1), (4, .int x7)]) (q := 88) C dX6_build_86 (by decide) rfl rfl ?_
    obtain ⟨j60, hj60, hm⟩ := cv_bd_s hm
    refine cv_cut (ws' := (wX6 q cy j60)) (pc' := 308) (lv' := [(0, .ref (q 0)), (1, .int a1)]) (st' := []) ?_ (fun K61 => ?_)
    · refine cv_aload_n (i := 0) (q := 309) 0 C dX6_build_308 rfl rfl rfl ?_
      refine cv_get (q := 312) C iX6_build_X6 0 rfl rfl 10 (by decide) (List.mem_of_getElem? (i := 9) rfl) rfl rfl dX6_build_309 rfl ?_
      refine cv_iload_n (i := 1) (q := 313) 1 C dX6_build_312 rfl rfl rfl ?_
      refine cv_dup2 (q := 314) C dX6_build_313 rfl rfl rfl ?_
      obtain ⟨g62, hm⟩ := cv_gd_s hm
      refine cv_iald (q := 315) C 9 0 rfl rfl (vp_in_iff.mpr g62) dX6_build_314 rfl ?_
      refine cv_iconst (v := 1) (q := 316) C dX6_build_315 (by decide) rfl ?_
      refine cv_iadd (q := 317) C dX6_build_316 rfl ?_
      obtain ⟨g63, hm⟩ := cv_gd_s hm
      obtain ⟨s64, es64, hm⟩ := cv_lt_s hm
      refine cv_iast (q := 318) (ws' := (wX6 q cy s64)) C 9 0 rfl rfl (vp_in_iff.mpr g63) dX6_build_317 rfl (by rw [es64]; rfl) ?_
      refine cv_aload_n (i := 0) (q := 319) 0 C dX6_build_318 rfl rfl rfl ?_
      refine cv_get (q := 322) C iX6_build_X6 0 rfl rfl 11 (by decide) (List.mem_of_getElem? (i := 10) rfl) rfl rfl dX6_build_319 rfl ?_
      refine cv_iload_n (i := 1) (q := 323) 1 C dX6_build_322 rfl rfl rfl ?_
      refine cv_dup2 (q := 324) C dX6_build_323 rfl rfl rfl ?_
      obtain ⟨g65, hm⟩ := cv_gd_s hm
      refine cv_iald (q := 325) C 10 0 rfl rfl (vp_in_iff.mpr g65) dX6_build_324 rfl ?_
      refine cv_aload_n (i := 0) (q := 326) 0 C dX6_build_325 rfl rfl rfl ?_
      refine cv_get (q := 329) C iX6_build_X6 0 rfl rfl 9 (by decide) (List.mem_of_getElem? (i := 1) rfl) rfl rfl dX6_build_326 rfl ?_
      refine cv_iadd (q := 330) C dX6_build_329 rfl ?_
      obtain ⟨g66, hm⟩ := cv_gd_s hm
      obtain ⟨s67, es67, hm⟩ := cv_lt_s hm
      refine cv_iast (q := 331) (ws' := (wX6 q cy s67)) C 10 0 rfl rfl (vp_in_iff.mpr g66) dX6_build_330 rfl (by rw [es67]; rfl) ?_
      refine cv_aload_n (i := 0) (q := 332) 0 C dX6_build_331 rfl rfl rfl ?_
      refine cv_iload_n (i := 1) (q := 333) 1 C dX6_build_332 rfl rfl rfl ?_
      refine cv_iconst (v := 0) (q := 334) C dX6_build_333 (by decide) rfl ?_
      refine cv_aload_n (i := 0) (q := 335) 0 C dX6_build_334 rfl rfl rfl ?_
      refine cv_get (q := 338) C iX6_build_X6 0 rfl rfl 9 (by decide) (List.mem_of_getElem? (i := 1) rfl) rfl rfl dX6_build_335 rfl ?_
      refine cv_isub (q := 339) C dX6_build_338 rfl ?_
      obtain ⟨r68, hr68, hm⟩ := cv_bd_s hm
      refine cv_goW (q := 342) C (KX6_pay (l := l) (σ := σ) (D := D) (cy := cy)  q  s67 a1 ((0 : Int32) - (gX6_builtNow s67)) hr68) (cv_rv (As := [.int a1, .int ((0 : Int32) - (gX6_builtNow s67))]) (st := []) (n := 2) (q0 := 0) (ci := 6) C (KX6_pay (l := l) (σ := σ) (D := D) (cy := cy)  q  s67 a1 ((0 : Int32) - (gX6_builtNow s67)) hr68) rfl rfl gX6_build_X6_pay rfl ⟨rfl, rfl⟩ (by decide +kernel) rfl ⟨Nat.le_of_ble_eq_true rfl, Nat.le_of_ble_eq_true rfl⟩ rfl (Nat.le_of_ble_eq_true rfl) dX6_build_339 ⟨Nat.zero_le _, Nat.zero_le _⟩) rfl ?_
      obtain rfl := Option.some.inj hm
      exact cv_vret C hr hk dX6_build_342
    · refine cv_sub [2, 3, 1, 0] rfl ?_
      exact vX6_build_L88 q a1 C 256 (1 : Int32) (0 : Int32) s15 hj60 K61
  · have hm := hj8
    refine cv_icmp_eq (tgt := 55) (q := 48) C dX6_build_45 (by decide) rfl (fun h69 => ?_) (fun h69 => ?_)
    · have hm := cv_if_t h69 hm
      obtain rfl := Option.some.inj hm
      refine cv_sub [2, 3, 0] rfl ?_
      exact K9
    · have hm := cv_if_f h69 hm
      refine cv_aload_n (i := 0) (q := 49) 2 C dX6_build_48 rfl rfl rfl ?_
      refine cv_iload_n (i := 1) (q := 50) 3 C dX6_build_49 rfl rfl rfl ?_
      refine cv_iload_n (i := 2) (q := 51) 4 C dX6_build_50 rfl rfl rfl ?_
      refine cv_iload_n (i := 3) (q := 52) 1 C dX6_build_51 rfl rfl rfl ?_
      obtain ⟨r70, hr70, hm⟩ := cv_bd_s hm
      refine cv_goW (q := 55) C (KX6_replace (l := l) (σ := σ) (D := D) (cy := cy)  q  r3 a1 a2 x5 hr70) (cv_rv (As := [.int a1, .int a2, .int x5]) (st := []) (n := 3) (q0 := 0) (ci := 6) C (KX6_replace (l := l) (σ := σ) (D := D) (cy := cy)  q  r3 a1 a2 x5 hr70) rfl rfl gX6_build_X6_replace rfl ⟨rfl, rfl⟩ (by decide +kernel) rfl ⟨Nat.le_of_ble_eq_true rfl, Nat.le_of_ble_eq_true rfl⟩ rfl (Nat.le_of_ble_eq_true rfl) dX6_build_52 ⟨Nat.zero_le _, Nat.zero_le _⟩) rfl ?_
      obtain rfl := Option.some.inj hm
      refine cv_sub [2, 3, 0] rfl ?_
      exact K9
def fX6_insert_L10 (S : SX6) (u1 : Int32) (u2 : Int32) : Nat → Int32 → Int32 → Option (Int32)
  | 0, _, _ => none
  | n + 1, y3, y4 =>
    if y4 = (-1 : Int32) then
      (
      some y3
      )
    else
      (
      cv_bd (
        if y4 ≤ u2 then
          (
          cv_gd (0 ≤ ((((100 : Int32) * u1) + y4)).toInt ∧ ((((100 : Int32) * u1) + y4)).toInt < 200) <|
          some ((gX6_right S) ((((100 : Int32) * u1) + y4)).toNatClampNeg)
          )
        else
          (
          cv_gd (0 ≤ ((((100 : Int32) * u1) + y4)).toInt ∧ ((((100 : Int32) * u1) + y4)).toInt < 200) <|
          some ((gX6_left S) ((((100 : Int32) * u1) + y4)).toNatClampNeg)
          )
      ) fun j4 =>
      fX6_insert_L10 S u1 u2 n y4 j4
      )
def fX6_insert (S : SX6) (a1 : Int32) (a2 : Int32) : Option (SX6) :=
  cv_gd (0 ≤ (a1).toInt ∧ (a1).toInt < 2) <|
  cv_lt (((gX6_root S) (a1).toNatClampNeg)) fun x2 =>
  cv_bd (fX6_insert_L10 S a1 a2 256 (-1 : Int32) x2) fun j9 =>
  cv_gd (0 ≤ ((((100 : Int32) * a1) + a2)).toInt ∧ ((((100 : Int32) * a1) + a2)).toInt < 200) <|
  cv_lt (sX6_left S (upd (gX6_left S) ((((100 : Int32) * a1) + a2)).toNatClampNeg (-1 : Int32))) fun s12 =>
  cv_gd (0 ≤ ((((100 : Int32) * a1) + a2)).toInt ∧ ((((100 : Int32) * a1) + a2)).toInt < 200) <|
  cv_lt (sX6_right s12 (upd (gX6_right s12) ((((100 : Int32) * a1) + a2)).toNatClampNeg (-1 : Int32))) fun s14 =>
  cv_gd (0 ≤ ((((100 : Int32) * a1) + a2)).toInt ∧ ((((100 : Int32) * a1) + a2)).toInt < 200) <|
  cv_lt (sX6_there s14 (upd (gX6_there s14) ((((100 : Int32) * a1) + a2)).toNatClampNeg (1 : Int32))) fun s16 =>
  cv_bd (
    if j9 = (-1 : Int32) then
      (
      if j9 = (-1 : Int32) then
        (
        some s16
        )
      else
        (
        cv_gd (0 ≤ ((((100 : Int32) * a1) + j9)).toInt ∧ ((((100 : Int32) * a1) + j9)).toInt < 200) <|
        cv_lt (sX6_right s16 (upd (gX6_right s16) ((((100 : Int32) * a1) + j9)).toNatClampNeg a2)) fun s35 =>
        some s35
        )
      )
    else
      (
      if j9 ≤ a2 then
        (
        if j9 = (-1 : Int32) then
          (
          some s16
          )
        else
          (
          cv_gd (0 ≤ ((((100 : Int32) * a1) + j9)).toInt ∧ ((((100 : Int32) * a1) + j9)).toInt < 200) <|
          cv_lt (sX6_right s16 (upd (gX6_right s16) ((((100 : Int32) * a1) + j9)).toNatClampNeg a2)) fun s39 =>
          some s39
          )
        )
      else
        (
        cv_gd (0 ≤ ((((100 : Int32) * a1) + j9)).toInt ∧ ((((100 : Int32) * a1) + j9)).toInt < 200) <|
        cv_lt (sX6_left s16 (upd (gX6_left s16) ((((100 : Int32) * a1) + j9)).toNatClampNeg a2)) fun s41 =>
        some s41
        )
      )
  ) fun j17 =>
  cv_bd (fX6_hang j17 a1 a2 j9) fun r19 =>
  cv_gd (0 ≤ (a1).toInt ∧ (a1).toInt < 2) <|
  cv_gd (0 ≤ (a1).toInt ∧ (a1).toInt < 2) <|
  cv_lt (sX6_many r19 (upd (gX6_many r19) (a1).toNatClampNeg (((gX6_many r19) (a1).toNatClampNeg) + (1 : Int32)))) fun s22 =>
  cv_gd (0 ≤ (a1).toInt ∧ (a1).toInt < 2) <|
  cv_gd (0 ≤ (a1).toInt ∧ (a1).toInt < 2) <|
  if ((gX6_many s22) (a1).toNatClampNeg) ≤ ((gX6_most s22) (a1).toNatClampNeg) then
    (
    cv_gd (0 ≤ (a1).toInt ∧ (a1).toInt < 2) <|
    cv_gd (0 ≤ (a1).toInt ∧ (a1).toInt < 2) <|
    cv_lt (sX6_most s22 (upd (gX6_most s22) (a1).toNatClampNeg ((gX6_most s22) (a1).toNatClampNeg))) fun s28 =>
    some s28
    )
  else
    (
    cv_gd (0 ≤ (a1).toInt ∧ (a1).toInt < 2) <|
    cv_gd (0 ≤ (a1).toInt ∧ (a1).toInt < 2) <|
    cv_lt (sX6_most s22 (upd (gX6_most s22) (a1).toNatClampNeg ((gX6_many s22) (a1).toNatClampNeg))) fun s31 =>
    some s31
    )
abbrev rX6_insert : Room := { frames := 1, cells := 0, slots := 0, locals := 23 }
theorem iX6_insert_X6 : ∀ w ∈ u_ws RX6 TX6 50, w ∈ wsX6_insert := fun w h => List.mem_cons_of_mem _ (List.mem_append_right _ h)
set_option maxHeartbeats 4000000 in
set_option maxRecDepth 100000 in
theorem vX6_insert_L10 {p : Program} {l : Launch} {e : Env} {s : State} {m : MethodId} {args : Array Value} {below : List Frame} {meth : Method} {c : Code} {σ : Nat → Nat} {D : va_G} {A : Nat → Prop} {cy : ClassId} (q : Nat → Nat) (S : SX6) (u1 : Int32) (u2 : Int32) (C : cv_C p s m args c cX6_insert 5 RX6 wsX6_insert σ D [(cy, .int)] A) {Q : State → Prop} {j : Int32} : ∀ (n : Nat) (y3 : Int32) (y4 : Int32), fX6_insert_L10 S u1 u2 n y3 y4 = some j → cv_V p l e rX6_insert s m args below meth c 5 D A Q 0 0 (wX6 q cy S) 57 [(0, .ref (q 0)), (1, .int u1), (2, .int u2), (3, .int j)] [] → cv_V p l e rX6_insert s m args below meth c 5 D A Q 0 0 (wX6 q cy S) 10 [(0, .ref (q 0)), (1, .int u1), (2, .int u2), (3, .int y3), (4, .int y4)] [] := by
  intro n
  induction n with
  | zero => intro y3 y4 hm kx; cases hm
  | succ n ih =>
    intro y3 y4 hm kx
    have hm : fX6_insert_L10 S u1 u2 (n + 1) y3 y4 = some j := hm
    unfold fX6_insert_L10 at hm
    refine cv_iload (i := 4) (q := 12) 4 C dX6_insert_10 rfl rfl ?_
    refine cv_iconst (v := -1) (q := 13) C dX6_insert_12 (by decide) rfl ?_
    refine cv_icmp_eq (tgt := 57) (q := 16) C dX6_insert_13 (by decide) rfl (fun h3 => ?_) (fun h3 => ?_)
    · have hm := cv_if_t h3 hm
      obtain rfl := Option.some.inj hm
      refine cv_sub [0, 1, 2, 3] rfl ?_
      exact kx
    · have hm := cv_if_f h3 hm
      refine cv_iload (i := 4) (q := 18) 4 C dX6_insert_16 rfl rfl ?_
      refine cv_istore_n (i := 3) (lv' := [(3, .int y4), (0, .ref (q 0)), (1, .int u1), (2, .int u2), (4, .int y4)]) (q := 19) C dX6_insert_18 rfl (by decide) rfl rfl ?_
      refine cv_iload_n (i := 2) (q := 20) 3 C dX6_insert_19 rfl rfl rfl ?_
      refine cv_iload (i := 4) (q := 22) 4 C dX6_insert_20 rfl rfl ?_
      obtain ⟨j4, hj4, hm⟩ := cv_bd_s hm
      refine cv_cut (ws' := (wX6 q cy S)) (pc' := 52) (lv' := [(0, .ref (q 0)), (1, .int u1), (2, .int u2), (3, .int y4)]) (st' := [.int j4]) ?_ (fun K5 => ?_)
      · refine cv_istore (i := 4) (lv' := [(4, .int j4), (0, .ref (q 0)), (1, .int u1), (2, .int u2), (3, .int y4)]) (q := 54) C dX6_insert_52 (by decide) rfl rfl ?_
        refine cv_goto (tgt := 10) C dX6_insert_54 (by decide) ?_
        refine cv_sub [1, 2, 3, 4, 0] rfl ?_
        exact ih y4 j4 hm kx
      · have hm := hj4
        refine cv_icmp_ge (tgt := 40) (q := 25) C dX6_insert_22 (by decide) rfl (fun h6 => ?_) (fun h6 => ?_)
        · have hm := cv_if_t h6 hm
          refine cv_aload_n (i := 0) (q := 41) 1 C dX6_insert_40 rfl rfl rfl ?_
          refine cv_get (q := 44) C iX6_insert_X6 0 rfl rfl 3 (by decide) (List.mem_of_getElem? (i := 3) rfl) rfl rfl dX6_insert_41 rfl ?_
          refine cv_bipush (v := 100) (q := 46) C dX6_insert_44 (by decide) rfl ?_
          refine cv_iload_n (i := 1) (q := 47) 2 C dX6_insert_46 rfl rfl rfl ?_
          refine cv_imul (q := 48) C dX6_insert_47 rfl ?_
          refine cv_iload (i := 4) (q := 50) 4 C dX6_insert_48 rfl rfl ?_
          refine cv_iadd (q := 51) C dX6_insert_50 rfl ?_
          obtain ⟨g7, hm⟩ := cv_gd_s hm
          refine cv_iald (q := 52) C 3 0 rfl rfl (vp_in_iff.mpr g7) dX6_insert_51 rfl ?_
          obtain rfl := Option.some.inj hm
          refine cv_sub [1, 2, 3, 0] rfl ?_
          exact K5
        · have hm := cv_if_f h6 hm
          refine cv_aload_n (i := 0) (q := 26) 1 C dX6_insert_25 rfl rfl rfl ?_
          refine cv_get (q := 29) C iX6_insert_X6 0 rfl rfl 2 (by decide) (List.mem_of_getElem? (i := 2) rfl) rfl rfl dX6_insert_26 rfl ?_
          refine cv_bipush (v := 100) (q := 31) C dX6_insert_29 (by decide) rfl ?_
          refine cv_iload_n (i := 1) (q := 32) 2 C dX6_insert_31 rfl rfl rfl ?_
          refine cv_imul (q := 33) C dX6_insert_32 rfl ?_
          refine cv_iload (i := 4) (q := 35) 4 C dX6_insert_33 rfl rfl ?_
          refine cv_iadd (q := 36) C dX6_insert_35 rfl ?_
          obtain ⟨g8, hm⟩ := cv_gd_s hm
          refine cv_iald (q := 37) C 2 0 rfl rfl (vp_in_iff.mpr g8) dX6_insert_36 rfl ?_
          refine cv_goto (tgt := 52) C dX6_insert_37 (by decide) ?_
          obtain rfl := Option.some.inj hm
          refine cv_sub [1, 2, 3, 0] rfl ?_
          exact K5
set_option maxHeartbeats 4000000 in
set_option maxRecDepth 100000 in
theorem KX6_insert {l : Launch} {σ : Nat → Nat} {D : va_G} {cy : ClassId} (q : Nat → Nat) (S : SX6) (a1 : Int32) (a2 : Int32) {res : SX6} (hm : fX6_insert S a1 a2 = some res) : cv_M l yX6_insert wsX6_insert rX6_insert σ D [(cy, .int)] [.ref (q 0), .int a1, .int a2] (wX6 q cy S) none (wX6 q cy res) := by
  unfold fX6_insert at hm
  refine cv_M.of (own := RX6) (by decide +kernel) rfl rfl (lv := [(0, .ref (q 0)), (1, .int a1), (2, .int a2)]) rfl (Nat.le_of_ble_eq_true rfl) ?_
  intro p e s m args below meth c A C hr hk
  refine cv_iconst (v := -1) (q := 1) C dX6_insert_0 (by decide) rfl ?_
  refine cv_istore_n (i := 3) (lv' := [(3, .int (-1 : Int32)), (0, .ref (q 0)), (1, .int a1), (2, .int a2)]) (q := 2) C dX6_insert_1 rfl (by decide) rfl rfl ?_
  refine cv_aload_n (i := 0) (q := 3) 1 C dX6_insert_2 rfl rfl rfl ?_
  refine cv_get (q := 6) C iX6_insert_X6 0 rfl rfl 6 (by decide) (List.mem_of_getElem? (i := 1) rfl) rfl rfl dX6_insert_3 rfl ?_
  refine cv_iload_n (i := 1) (q := 7) 2 C dX6_insert_6 rfl rfl rfl ?_
  obtain ⟨g1, hm⟩ := cv_gd_s hm
  refine cv_iald (q := 8) C 6 0 rfl rfl (vp_in_iff.mpr g1) dX6_insert_7 rfl ?_
  obtain ⟨x2, ex2, hm⟩ := cv_lt_s hm
  refine cv_topi ex2 ?_
  refine cv_istore (i := 4) (lv' := [(4, .int x2), (3, .int (-1 : Int32)), (0, .ref (q 0)), (1, .int a1), (2, .int a2)]) (q := 10) C dX6_insert_8 (by decide) rfl rfl ?_
  obtain ⟨j9, hj9, hm⟩ := cv_bd_s hm
  refine cv_cut (ws' := (wX6 q cy S)) (pc' := 57) (lv' := [(0, .ref (q 0)), (1, .int a1), (2, .int a2), (3, .int j9)]) (st' := []) ?_ (fun K10 => ?_)
  · refine cv_aload_n (i := 0) (q := 58) 0 C dX6_insert_57 rfl rfl rfl ?_
    refine cv_get (q := 61) C iX6_insert_X6 0 rfl rfl 2 (by decide) (List.mem_of_getElem? (i := 2) rfl) rfl rfl dX6_insert_58 rfl ?_
    refine cv_bipush (v := 100) (q := 63) C dX6_insert_61 (by decide) rfl ?_
    refine cv_iload_n (i := 1) (q := 64) 1 C dX6_insert_63 rfl rfl rfl ?_
    refine cv_imul (q := 65) C dX6_insert_64 rfl ?_
    refine cv_iload_n (i := 2) (q := 66) 2 C dX6_insert_65 rfl rfl rfl ?_
    refine cv_iadd (q := 67) C dX6_insert_66 rfl ?_
    refine cv_iconst (v := -1) (q := 68) C dX6_insert_67 (by decide) rfl ?_
    obtain ⟨g11, hm⟩ := cv_gd_s hm
    obtain ⟨s12, es12, hm⟩ := cv_lt_s hm
    refine cv_iast (q := 69) (ws' := (wX6 q cy s12)) C 2 0 rfl rfl (vp_in_iff.mpr g11) dX6_insert_68 rfl (by rw [es12]; rfl) ?_
    refine cv_aload_n (i := 0) (q := 70) 0 C dX6_insert_69 rfl rfl rfl ?_
    refine cv_get (q := 73) C iX6_insert_X6 0 rfl rfl 3 (by decide) (List.mem_of_getElem? (i := 3) rfl) rfl rfl dX6_insert_70 rfl ?_
    refine cv_bipush (v := 100) (q := 75) C dX6_insert_73 (by decide) rfl ?_
    refine cv_iload_n (i := 1) (q := 76) 1 C dX6_insert_75 rfl rfl rfl ?_
    refine cv_imul (q := 77) C dX6_insert_76 rfl ?_
    refine cv_iload_n (i := 2) (q := 78) 2 C dX6_insert_77 rfl rfl rfl ?_
    refine cv_iadd (q := 79) C dX6_insert_78 rfl ?_
    refine cv_iconst (v := -1) (q := 80) C dX6_insert_79 (by decide) rfl ?_
    obtain ⟨g13, hm⟩ := cv_gd_s hm
    obtain ⟨s14, es14, hm⟩ := cv_lt_s hm
    refine cv_iast (q := 81) (ws' := (wX6 q cy s14)) C 3 0 rfl rfl (vp_in_iff.mpr g13) dX6_insert_80 rfl (by rw [es14]; rfl) ?_
    refine cv_aload_n (i := 0) (q := 82) 0 C dX6_insert_81 rfl rfl rfl ?_
    refine cv_get (q := 85) C iX6_insert_X6 0 rfl rfl 5 (by decide) (List.mem_of_getElem? (i := 4) rfl) rfl rfl dX6_insert_82 rfl ?_
    refine cv_bipush (v := 100) (q := 87) C dX6_insert_85 (by decide) rfl ?_
    refine cv_iload_n (i := 1) (q := 88) 1 C dX6_insert_87 rfl rfl rfl ?_
    refine cv_imul (q := 89) C dX6_insert_88 rfl ?_
    refine cv_iload_n (i := 2) (q := 90) 2 C dX6_insert_89 rfl rfl rfl ?_
    refine cv_iadd (q := 91) C dX6_insert_90 rfl ?_
    refine cv_iconst (v := 1) (q := 92) C dX6_insert_91 (by decide) rfl ?_
    obtain ⟨g15, hm⟩ := cv_gd_s hm
    obtain ⟨s16, es16, hm⟩ := cv_lt_s hm
    refine cv_iast (q := 93) (ws' := (wX6 q cy s16)) C 5 0 rfl rfl (vp_in_iff.mpr g15) dX6_insert_92 rfl (by rw [es16]; rfl) ?_
    refine cv_iload_n (i := 3) (q := 94) 3 C dX6_insert_93 rfl rfl rfl ?_
    refine cv_iconst (v := -1) (q := 95) C dX6_insert_94 (by decide) rfl ?_
    obtain ⟨j17, hj17, hm⟩ := cv_bd_s hm
    refine cv_cut (ws' := (wX6 q cy j17)) (pc' := 135) (lv' := [(0, .ref (q 0)), (1, .int a1), (2, .int a2), (3, .int j9)]) (st' := []) ?_ (fun K18 => ?_)
    · refine cv_aload_n (i := 0) (q := 136) 0 C dX6_insert_135 rfl rfl rfl ?_
      refine cv_iload_n (i := 1) (q := 137) 1 C dX6_insert_136 rfl rfl rfl ?_
      refine cv_iload_n (i := 2) (q := 138) 2 C dX6_insert_137 rfl rfl rfl ?_
      refine cv_iload_n (i := 3) (q := 139) 3 C dX6_insert_138 rfl rfl rfl ?_
      obtain ⟨r19, hr19, hm⟩ := cv_bd_s hm
      refine cv_goW (q := 142) C (KX6_hang (l := l) (σ := σ) (D := D) (cy := cy)  q  j17 a1 a2 j9 hr19) (cv_rv (As := [.int a1, .int a2, .int j9]) (st := []) (n := 3) (q0 := 0) (ci := 6) C (KX6_hang (l := l) (σ := σ) (D := D) (cy := cy)  q  j17 a1 a2 j9 hr19) rfl rfl gX6_insert_X6_hang rfl ⟨rfl, rfl⟩ (by decide +kernel) rfl ⟨Nat.le_of_ble_eq_true rfl, Nat.le_of_ble_eq_true rfl⟩ rfl (Nat.le_of_ble_eq_true rfl) dX6_insert_139 ⟨Nat.zero_le _, Nat.zero_le _⟩) rfl ?_
      refine cv_aload_n (i := 0) (q := 143) 0 C dX6_insert_142 rfl rfl rfl ?_
      refine cv_get (q := 146) C iX6_insert_X6 0 rfl rfl 7 (by decide) (List.mem_of_getElem? (i := 5) rfl) rfl rfl dX6_insert_143 rfl ?_
      refine cv_iload_n (i := 1) (q := 147) 1 C dX6_insert_146 rfl rfl rfl ?_
      refine cv_dup2 (q := 148) C dX6_insert_147 rfl rfl rfl ?_
      obtain ⟨g20, hm⟩ := cv_gd_s hm
      refine cv_iald (q := 149) C 7 0 rfl rfl (vp_in_iff.mpr g20) dX6_insert_148 rfl ?_
      refine cv_iconst (v := 1) (q := 150) C dX6_insert_149 (by decide) rfl ?_
      refine cv_iadd (q := 151) C dX6_insert_150 rfl ?_
      obtain ⟨g21, hm⟩ := cv_gd_s hm
      obtain ⟨s22, es22, hm⟩ := cv_lt_s hm
      refine cv_iast (q := 152) (ws' := (wX6 q cy s22)) C 7 0 rfl rfl (vp_in_iff.mpr g21) dX6_insert_151 rfl (by rw [es22]; rfl) ?_
      refine cv_aload_n (i := 0) (q := 153) 0 C dX6_insert_152 rfl rfl rfl ?_
      refine cv_get (q := 156) C iX6_insert_X6 0 rfl rfl 8 (by decide) (List.mem_of_getElem? (i := 6) rfl) rfl rfl dX6_insert_153 rfl ?_
      refine cv_iload_n (i := 1) (q := 157) 1 C dX6_insert_156 rfl rfl rfl ?_
      refine cv_aload_n (i := 0) (q := 158) 0 C dX6_insert_157 rfl rfl rfl ?_
      refine cv_get (q := 161) C iX6_insert_X6 0 rfl rfl 7 (by decide) (List.mem_of_getElem? (i := 5) rfl) rfl rfl dX6_insert_158 rfl ?_
      refine cv_iload_n (i := 1) (q := 162) 1 C dX6_insert_161 rfl rfl rfl ?_
      obtain ⟨g23, hm⟩ := cv_gd_s hm
      refine cv_iald (q := 163) C 7 0 rfl rfl (vp_in_iff.mpr g23) dX6_insert_162 rfl ?_
      refine cv_aload_n (i := 0) (q := 164) 0 C dX6_insert_163 rfl rfl rfl ?_
      refine cv_get (q := 167) C iX6_insert_X6 0 rfl rfl 8 (by decide) (List.mem_of_getElem? (i := 6) rfl) rfl rfl dX6_insert_164 rfl ?_
      refine cv_iload_n (i := 1) (q := 168) 1 C dX6_insert_167 rfl rfl rfl ?_
      obtain ⟨g24, hm⟩ := cv_gd_s hm
      refine cv_iald (q := 169) C 8 0 rfl rfl (vp_in_iff.mpr g24) dX6_insert_168 rfl ?_
      refine cv_icmp_le (tgt := 181) (q := 172) C dX6_insert_169 (by decide) rfl (fun h25 => ?_) (fun h25 => ?_)
      · have hm := cv_if_t h25 hm
        refine cv_aload_n (i := 0) (q := 182) 0 C dX6_insert_181 rfl rfl rfl ?_
        refine cv_get (q := 185) C iX6_insert_X6 0 rfl rfl 8 (by decide) (List.mem_of_getElem? (i := 6) rfl) rfl rfl dX6_insert_182 rfl ?_
        refine cv_iload_n (i := 1) (q := 186) 1 C dX6_insert_185 rfl rfl rfl ?_
        obtain ⟨g26, hm⟩ := cv_gd_s hm
        refine cv_iald (q := 187) C 8 0 rfl rfl (vp_in_iff.mpr g26) dX6_insert_186 rfl ?_
        obtain ⟨g27, hm⟩ := cv_gd_s hm
        obtain ⟨s28, es28, hm⟩ := cv_lt_s hm
        refine cv_iast (q := 188) (ws' := (wX6 q cy s28)) C 8 0 rfl rfl (vp_in_iff.mpr g27) dX6_insert_187 rfl (by rw [es28]; rfl) ?_
        obtain rfl := Option.some.inj hm
        exact cv_vret C hr hk dX6_insert_188
      · have hm := cv_if_f h25 hm
        refine cv_aload_n (i := 0) (q := 173) 0 C dX6_insert_172 rfl rfl rfl ?_
        refine cv_get (q := 176) C iX6_insert_X6 0 rfl rfl 7 (by decide) (List.mem_of_getElem? (i := 5) rfl) rfl rfl dX6_insert_173 rfl ?_
        refine cv_iload_n (i := 1) (q := 177) 1 C dX6_insert_176 rfl rfl rfl ?_
        obtain ⟨g29, hm⟩ := cv_gd_s hm
        refine cv_iald (q := 178) C 7 0 rfl rfl (vp_in_iff.mpr g29) dX6_insert_177 rfl ?_
        refine cv_goto (tgt := 187) C dX6_insert_178 (by decide) ?_
        obtain ⟨g30, hm⟩ := cv_gd_s hm
        obtain ⟨s31, es31, hm⟩ := cv_lt_s hm
        refine cv_iast (q := 188) (ws' := (wX6 q cy s31)) C 8 0 rfl rfl (vp_in_iff.mpr g30) dX6_insert_187 rfl (by rw [es31]; rfl) ?_
        obtain rfl := Option.some.inj hm
        exact cv_vret C hr hk dX6_insert_188
    · have hm := hj17
      refine cv_icmp_eq (tgt := 118) (q := 98) C dX6_insert_95 (by decide) rfl (fun h32 => ?_) (fun h32 => ?_)
      · have hm := cv_if_t h32 hm
        refine cv_iload_n (i := 3) (q := 119) 3 C dX6_insert_118 rfl rfl rfl ?_
        refine cv_iconst (v := -1) (q := 120) C dX6_insert_119 (by decide) rfl ?_
        refine cv_icmp_eq (tgt := 135) (q := 123) C dX6_insert_120 (by decide) rfl (fun h33 => ?_) (fun h33 => ?_)
        · have hm := cv_if_t h33 hm
          obtain rfl := Option.some.inj hm
          exact K18
        · have hm := cv_if_f h33 hm
          refine cv_aload_n (i := 0) (q := 124) 0 C dX6_insert_123 rfl rfl rfl ?_
          refine cv_get (q := 127) C iX6_insert_X6 0 rfl rfl 3 (by decide) (List.mem_of_getElem? (i := 3) rfl) rfl rfl dX6_insert_124 rfl ?_
          refine cv_bipush (v := 100) (q := 129) C dX6_insert_127 (by decide) rfl ?_
          refine cv_iload_n (i := 1) (q := 130) 1 C dX6_insert_129 rfl rfl rfl ?_
          refine cv_imul (q := 131) C dX6_insert_130 rfl ?_
          refine cv_iload_n (i := 3) (q := 132) 3 C dX6_insert_131 rfl rfl rfl ?_
          refine cv_iadd (q := 133) C dX6_insert_132 rfl ?_
          refine cv_iload_n (i := 2) (q := 134) 2 C dX6_insert_133 rfl rfl rfl ?_
          obtain ⟨g34, hm⟩ := cv_gd_s hm
          obtain ⟨s35, es35, hm⟩ := cv_lt_s hm
          refine cv_iast (q := 135) (ws' := (wX6 q cy s35)) C 3 0 rfl rfl (vp_in_iff.mpr g34) dX6_insert_134 rfl (by rw [es35]; rfl) ?_
          obtain rfl := Option.some.inj hm
          exact K18
      · have hm := cv_if_f h32 hm
        refine cv_iload_n (i := 2) (q := 99) 2 C dX6_insert_98 rfl rfl rfl ?_
        refine cv_iload_n (i := 3) (q := 100) 3 C dX6_insert_99 rfl rfl rfl ?_
        refine cv_icmp_ge (tgt := 118) (q := 103) C dX6_insert_100 (by decide) rfl (fun h36 => ?_) (fun h36 => ?_)
        · have hm := cv_if_t h36 hm
          refine cv_iload_n (i := 3) (q := 119) 3 C dX6_insert_118 rfl rfl rfl ?_
          refine cv_iconst (v := -1) (q := 120) C dX6_insert_119 (by decide) rfl ?_
          refine cv_icmp_eq (tgt := 135) (q := 123) C dX6_insert_120 (by decide) rfl (fun h37 => ?_) (fun h37 => ?_)
          · have hm := cv_if_t h37 hm
            obtain rfl := Option.some.inj hm
            exact K18
          · have hm := cv_if_f h37 hm
            refine cv_aload_n (i := 0) (q := 124) 0 C dX6_insert_123 rfl rfl rfl ?_
            refine cv_get (q := 127) C iX6_insert_X6 0 rfl rfl 3 (by decide) (List.mem_of_getElem? (i := 3) rfl) rfl rfl dX6_insert_124 rfl ?_
            refine cv_bipush (v := 100) (q := 129) C dX6_insert_127 (by decide) rfl ?_
            refine cv_iload_n (i := 1) (q := 130) 1 C dX6_insert_129 rfl rfl rfl ?_
            refine cv_imul (q := 131) C dX6_insert_130 rfl ?_
            refine cv_iload_n (i := 3) (q := 132) 3 C dX6_insert_131 rfl rfl rfl ?_
            refine cv_iadd (q := 133) C dX6_insert_132 rfl ?_
            refine cv_iload_n (i := 2) (q := 134) 2 C dX6_insert_133 rfl rfl rfl ?_
            obtain ⟨g38, hm⟩ := cv_gd_s hm
            obtain ⟨s39, es39, hm⟩ := cv_lt_s hm
            refine cv_iast (q := 135) (ws' := (wX6 q cy s39)) C 3 0 rfl rfl (vp_in_iff.mpr g38) dX6_insert_134 rfl (by rw [es39]; rfl) ?_
            obtain rfl := Option.some.inj hm
            exact K18
        · have hm := cv_if_f h36 hm
          refine cv_aload_n (i := 0) (q := 104) 0 C dX6_insert_103 rfl rfl rfl ?_
          refine cv_get (q := 107) C iX6_insert_X6 0 rfl rfl 2 (by decide) (List.mem_of_getElem? (i := 2) rfl) rfl rfl dX6_insert_104 rfl ?_
          refine cv_bipush (v := 100) (q := 109) C dX6_insert_107 (by decide) rfl ?_
          refine cv_iload_n (i := 1) (q := 110) 1 C dX6_insert_109 rfl rfl rfl ?_
          refine cv_imul (q := 111) C dX6_insert_110 rfl ?_
          refine cv_iload_n (i := 3) (q := 112) 3 C dX6_insert_111 rfl rfl rfl ?_
          refine cv_iadd (q := 113) C dX6_insert_112 rfl ?_
          refine cv_iload_n (i := 2) (q := 114) 2 C dX6_insert_113 rfl rfl rfl ?_
          obtain ⟨g40, hm⟩ := cv_gd_s hm
          obtain ⟨s41, es41, hm⟩ := cv_lt_s hm
          refine cv_iast (q := 115) (ws' := (wX6 q cy s41)) C 2 0 rfl rfl (vp_in_iff.mpr g40) dX6_insert_114 rfl (by rw [es41]; rfl) ?_
          refine cv_goto (tgt := 135) C dX6_insert_115 (by decide) ?_
          obtain rfl := Option.some.inj hm
          exact K18
  · refine cv_sub [2, 3, 4, 1, 0] rfl ?_
    exact vX6_insert_L10 q S a1 a2 C 256 (-1 : Int32) x2 hj9 K10
def fX6_isLopsided (S : SX6) (a1 : Int32) (a2 : Int32) : Option (Int32) :=
  cv_bd (fX6_a S a1) fun r1 =>
  cv_bd (fX6_size S a1 a2) fun r2 =>
  cv_lt ((r1 * r2)) fun x3 =>
  cv_bd (fX6_b S a1) fun r4 =>
  cv_gd (0 ≤ ((((100 : Int32) * a1) + a2)).toInt ∧ ((((100 : Int32) * a1) + a2)).toInt < 200) <|
  cv_bd (fX6_size S a1 ((gX6_left S) ((((100 : Int32) * a1) + a2)).toNatClampNeg)) fun r6 =>
  if x3 < (r4 * r6) then
    (
    some (1 : Int32)
    )
  else
    (
    cv_bd (fX6_b S a1) fun r8 =>
    cv_gd (0 ≤ ((((100 : Int32) * a1) + a2)).toInt ∧ ((((100 : Int32) * a1) + a2)).toInt < 200) <|
    cv_bd (fX6_size S a1 ((gX6_right S) ((((100 : Int32) * a1) + a2)).toNatClampNeg)) fun r10 =>
    if (r8 * r10) ≤ x3 then
      (
      some (0 : Int32)
      )
    else
      (
      some (1 : Int32)
      )
    )
abbrev rX6_isLopsided : Room := { frames := 2, cells := 0, slots := 0, locals := 48 }
theorem iX6_isLopsided_X6 : ∀ w ∈ u_ws RX6 TX6 50, w ∈ wsX6_isLopsided := fun w h => List.mem_cons_of_mem _ (List.mem_append_right _ h)
set_option maxHeartbeats 4000000 in
set_option maxRecDepth 100000 in
theorem KX6_isLopsided {l : Launch} {σ : Nat → Nat} {D : va_G} {cy : ClassId} (q : Nat → Nat) (S : SX6) (a1 : Int32) (a2 : Int32) {res : Int32} (hm : fX6_isLopsided S a1 a2 = some res) : cv_M l yX6_isLopsided wsX6_isLopsided rX6_isLopsided σ D [(cy, .int)] [.ref (q 0), .int a1, .int a2] (wX6 q cy S) (some (.int res)) (wX6 q cy S) := by
  unfold fX6_isLopsided at hm
  refine cv_M.of (own := RX6) (by decide +kernel) rfl rfl (lv := [(0, .ref (q 0)), (1, .int a1), (2, .int a2)]) rfl (Nat.le_of_ble_eq_true rfl) ?_
  intro p e s m args below meth c A C hr hk
  refine cv_aload_n (i := 0) (q := 1) 0 C dX6_isLopsided_0 rfl rfl rfl ?_
  refine cv_iload_n (i := 1) (q := 2) 1 C dX6_isLopsided_1 rfl rfl rfl ?_
  obtain ⟨r1, hr1, hm⟩ := cv_bd_s hm
  refine cv_goW (q := 5) C (KX6_a (l := l) (σ := σ) (D := D) (cy := cy)  q  S a1 hr1) (cv_rv (As := [.int a1]) (st := []) (n := 1) (q0 := 0) (ci := 6) C (KX6_a (l := l) (σ := σ) (D := D) (cy := cy)  q  S a1 hr1) rfl rfl gX6_isLopsided_X6_a rfl ⟨rfl, rfl⟩ (by decide +kernel) rfl ⟨Nat.le_of_ble_eq_true rfl, Nat.le_of_ble_eq_true rfl⟩ rfl (Nat.le_of_ble_eq_true rfl) dX6_isLopsided_2 ⟨Nat.zero_le _, Nat.zero_le _⟩) rfl ?_
  refine cv_aload_n (i := 0) (q := 6) 0 C dX6_isLopsided_5 rfl rfl rfl ?_
  refine cv_iload_n (i := 1) (q := 7) 1 C dX6_isLopsided_6 rfl rfl rfl ?_
  refine cv_iload_n (i := 2) (q := 8) 2 C dX6_isLopsided_7 rfl rfl rfl ?_
  obtain ⟨r2, hr2, hm⟩ := cv_bd_s hm
  refine cv_goW (q := 11) C (KX6_size (l := l) (σ := σ) (D := D) (cy := cy)  q  S a1 a2 hr2) (cv_rv (As := [.int a1, .int a2]) (st := [.int r1]) (n := 2) (q0 := 0) (ci := 6) C (KX6_size (l := l) (σ := σ) (D := D) (cy := cy)  q  S a1 a2 hr2) rfl rfl gX6_isLopsided_X6_size rfl ⟨rfl, rfl⟩ (by decide +kernel) rfl ⟨Nat.le_of_ble_eq_true rfl, Nat.le_of_ble_eq_true rfl⟩ rfl (Nat.le_of_ble_eq_true rfl) dX6_isLopsided_8 ⟨Nat.zero_le _, Nat.zero_le _⟩) rfl ?_
  refine cv_imul (q := 12) C dX6_isLopsided_11 rfl ?_
  obtain ⟨x3, ex3, hm⟩ := cv_lt_s hm
  refine cv_topi ex3 ?_
  refine cv_istore_n (i := 3) (lv' := [(3, .int x3), (0, .ref (q 0)), (1, .int a1), (2, .int a2)]) (q := 13) C dX6_isLopsided_12 rfl (by decide) rfl rfl ?_
  refine cv_aload_n (i := 0) (q := 14) 1 C dX6_isLopsided_13 rfl rfl rfl ?_
  refine cv_iload_n (i := 1) (q := 15) 2 C dX6_isLopsided_14 rfl rfl rfl ?_
  obtain ⟨r4, hr4, hm⟩ := cv_bd_s hm
  refine cv_goW (q := 18) C (KX6_b (l := l) (σ := σ) (D := D) (cy := cy)  q  S a1 hr4) (cv_rv (As := [.int a1]) (st := []) (n := 1) (q0 := 0) (ci := 6) C (KX6_b (l := l) (σ := σ) (D := D) (cy := cy)  q  S a1 hr4) rfl rfl gX6_isLopsided_X6_b rfl ⟨rfl, rfl⟩ (by decide +kernel) rfl ⟨Nat.le_of_ble_eq_true rfl, Nat.le_of_ble_eq_true rfl⟩ rfl (Nat.le_of_ble_eq_true rfl) dX6_isLopsided_15 ⟨Nat.zero_le _, Nat.zero_le _⟩) rfl ?_
  refine cv_aload_n (i := 0) (q := 19) 1 C dX6_isLopsided_18 rfl rfl rfl ?_
  refine cv_iload_n (i := 1) (q := 20) 2 C dX6_isLopsided_19 rfl rfl rfl ?_
  refine cv_aload_n (i := 0) (q := 21) 1 C dX6_isLopsided_20 rfl rfl rfl ?_
  refine cv_get (q := 24) C iX6_isLopsided_X6 0 rfl rfl 2 (by decide) (List.mem_of_getElem? (i := 1) rfl) rfl rfl dX6_isLopsided_21 rfl ?_
  refine cv_bipush (v := 100) (q := 26) C dX6_isLopsided_24 (by decide) rfl ?_
  refine cv_iload_n (i := 1) (q := 27) 2 C dX6_isLopsided_26 rfl rfl rfl ?_
  refine cv_imul (q := 28) C dX6_isLopsided_27 rfl ?_
  refine cv_iload_n (i := 2) (q := 29) 3 C dX6_isLopsided_28 rfl rfl rfl ?_
  refine cv_iadd (q := 30) C dX6_isLopsided_29 rfl ?_
  obtain ⟨g5, hm⟩ := cv_gd_s hm
  refine cv_iald (q := 31) C 2 0 rfl rfl (vp_in_iff.mpr g5) dX6_isLopsided_30 rfl ?_
  obtain ⟨r6, hr6, hm⟩ := cv_bd_s hm
  refine cv_goW (q := 34) C (KX6_size (l := l) (σ := σ) (D := D) (cy := cy)  q  S a1 ((gX6_left S) ((((100 : Int32) * a1) + a2)).toNatClampNeg) hr6) (cv_rv (As := [.int a1, .int ((gX6_left S) ((((100 : Int32) * a1) + a2)).toNatClampNeg)]) (st := [.int r4]) (n := 2) (q0 := 0) (ci := 6) C (KX6_size (l := l) (σ := σ) (D := D) (cy := cy)  q  S a1 ((gX6_left S) ((((100 : Int32) * a1) + a2)).toNatClampNeg) hr6) rfl rfl gX6_isLopsided_X6_size rfl ⟨rfl, rfl⟩ (by decide +kernel) rfl ⟨Nat.le_of_ble_eq_true rfl, Nat.le_of_ble_eq_true rfl⟩ rfl (Nat.le_of_ble_eq_true rfl) dX6_isLopsided_31 ⟨Nat.zero_le _, Nat.zero_le _⟩) rfl ?_
  refine cv_imul (q := 35) C dX6_isLopsided_34 rfl ?_
  refine cv_iload_n (i := 3) (q := 36) 0 C dX6_isLopsided_35 rfl rfl rfl ?_
  refine cv_icmp_gt (tgt := 65) (q := 39) C dX6_isLopsided_36 (by decide) rfl (fun h7 => ?_) (fun h7 => ?_)
  · have hm := cv_if_t h7 hm
    refine cv_iconst (v := 1) (q := 66) C dX6_isLopsided_65 (by decide) rfl ?_
    refine cv_goto (tgt := 70) C dX6_isLopsided_66 (by decide) ?_
    obtain rfl := Option.some.inj hm
    exact cv_zret C hr hk (cv_bool (Or.inr rfl)) dX6_isLopsided_70
  · have hm := cv_if_f h7 hm
    refine cv_aload_n (i := 0) (q := 40) 1 C dX6_isLopsided_39 rfl rfl rfl ?_
    refine cv_iload_n (i := 1) (q := 41) 2 C dX6_isLopsided_40 rfl rfl rfl ?_
    obtain ⟨r8, hr8, hm⟩ := cv_bd_s hm
    refine cv_goW (q := 44) C (KX6_b (l := l) (σ := σ) (D := D) (cy := cy)  q  S a1 hr8) (cv_rv (As := [.int a1]) (st := []) (n := 1) (q0 := 0) (ci := 6) C (KX6_b (l := l) (σ := σ) (D := D) (cy := cy)  q  S a1 hr8) rfl rfl gX6_isLopsided_X6_b rfl ⟨rfl, rfl⟩ (by decide +kernel) rfl ⟨Nat.le_of_ble_eq_true rfl, Nat.le_of_ble_eq_true rfl⟩ rfl (Nat.le_of_ble_eq_true rfl) dX6_isLopsided_41 ⟨Nat.zero_le _, Nat.zero_le _⟩) rfl ?_
    refine cv_aload_n (i := 0) (q := 45) 1 C dX6_isLopsided_44 rfl rfl rfl ?_
    refine cv_iload_n (i := 1) (q := 46) 2 C dX6_isLopsided_45 rfl rfl rfl ?_
    refine cv_aload_n (i := 0) (q := 47) 1 C dX6_isLopsided_46 rfl rfl rfl ?_
    refine cv_get (q := 50) C iX6_isLopsided_X6 0 rfl rfl 3 (by decide) (List.mem_of_getElem? (i := 2) rfl) rfl rfl dX6_isLopsided_47 rfl ?_
    refine cv_bipush (v := 100) (q := 52) C dX6_isLopsided_50 (by decide) rfl ?_
    refine cv_iload_n (i := 1) (q := 53) 2 C dX6_isLopsided_52 rfl rfl rfl ?_
    refine cv_imul (q := 54) C dX6_isLopsided_53 rfl ?_
    refine cv_iload_n (i := 2) (q := 55) 3 C dX6_isLopsided_54 rfl rfl rfl ?_
    refine cv_iadd (q := 56) C dX6_isLopsided_55 rfl ?_
    obtain ⟨g9, hm⟩ := cv_gd_s hm
    refine cv_iald (q := 57) C 3 0 rfl rfl (vp_in_iff.mpr g9) dX6_isLopsided_56 rfl ?_
    obtain ⟨r10, hr10, hm⟩ := cv_bd_s hm
    refine cv_goW (q := 60) C (KX6_size (l := l) (σ := σ) (D := D) (cy := cy)  q  S a1 ((gX6_right S) ((((100 : Int32) * a1) + a2)).toNatClampNeg) hr10) (cv_rv (As := [.int a1, .int ((gX6_right S) ((((100 : Int32) * a1) + a2)).toNatClampNeg)]) (st := [.int r8]) (n := 2) (q0 := 0) (ci := 6) C (KX6_size (l := l) (σ := σ) (D := D) (cy := cy)  q  S a1 ((gX6_right S) ((((100 : Int32) * a1) + a2)).toNatClampNeg) hr10) rfl rfl gX6_isLopsided_X6_size rfl ⟨rfl, rfl⟩ (by decide +kernel) rfl ⟨Nat.le_of_ble_eq_true rfl, Nat.le_of_ble_eq_true rfl⟩ rfl (Nat.le_of_ble_eq_true rfl) dX6_isLopsided_57 ⟨Nat.zero_le _, Nat.zero_le _⟩) rfl ?_
    refine cv_imul (q := 61) C dX6_isLopsided_60 rfl ?_
    refine cv_iload_n (i := 3) (q := 62) 0 C dX6_isLopsided_61 rfl rfl rfl ?_
    refine cv_icmp_le (tgt := 69) (q := 65) C dX6_isLopsided_62 (by decide) rfl (fun h11 => ?_) (fun h11 => ?_)
    · have hm := cv_if_t h11 hm
      refine cv_iconst (v := 0) (q := 70) C dX6_isLopsided_69 (by decide) rfl ?_
      obtain rfl := Option.some.inj hm
      exact cv_zret C hr hk (cv_bool (Or.inl rfl)) dX6_isLopsided_70
    · have hm := cv_if_f h11 hm
      refine cv_iconst (v := 1) (q := 66) C dX6_isLopsided_65 (by decide) rfl ?_
      refine cv_goto (tgt := 70) C dX6_isLopsided_66 (by decide) ?_
      obtain rfl := Option.some.inj hm
      exact cv_zret C hr hk (cv_bool (Or.inr rfl)) dX6_isLopsided_70
