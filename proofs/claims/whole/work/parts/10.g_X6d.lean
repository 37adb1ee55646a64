def fX6_entry (S : SX6) (a1 : Int32) (a2 : Int32) : Option (Int32) :=
  cv_bd (fX6_isThere S a1) fun r1 =>
  if r1 = 0 then
    (
    some (-101 : Int32)
    )
  else
    (
    cv_bd (fX6_tellEntry S a1 a2) fun r3 =>
    some r3
    )
abbrev rX6_entry : Room := { frames := 3, cells := 0, slots := 0, locals := 70 }
set_option maxHeartbeats 4000000 in
set_option maxRecDepth 100000 in
theorem KX6_entry {l : Launch} {σ : Nat → Nat} {D : va_G} {cy : ClassId} (q : Nat → Nat) (S : SX6) (a1 : Int32) (a2 : Int32) {res : Int32} (hm : fX6_entry S a1 a2 = some res) : cv_M l yX6_entry wsX6_entry rX6_entry σ D [(cy, .int)] [.ref (q 0), .int a1, .int a2] (wX6 q cy S) (some (.int res)) (wX6 q cy S) := by
  unfold fX6_entry at hm
  refine cv_M.of (own := RX6) (by decide +kernel) rfl rfl (lv := [(0, .ref (q 0)), (1, .int a1), (2, .int a2)]) rfl (Nat.le_of_ble_eq_true rfl) ?_
  intro p e s m args below meth c A C hr hk
  refine cv_aload_n (i := 0) (q := 1) 0 C dX6_entry_0 rfl rfl rfl ?_
  refine cv_iload_n (i := 1) (q := 2) 1 C dX6_entry_1 rfl rfl rfl ?_
  obtain ⟨r1, hr1, hm⟩ := cv_bd_s hm
  refine cv_goW (q := 5) C (KX6_isThere (l := l) (σ := σ) (D := D) (cy := cy)  q  S a1 hr1) (cv_rv (As := [.int a1]) (st := []) (n := 1) (q0 := 0) (ci := 6) C (KX6_isThere (l := l) (σ := σ) (D := D) (cy := cy)  q  S a1 hr1) rfl rfl gX6_entry_X6_isThere rfl ⟨rfl, rfl⟩ (by decide +kernel) rfl ⟨Nat.le_of_ble_eq_true rfl, Nat.le_of_ble_eq_true rfl⟩ rfl (Nat.le_of_ble_eq_true rfl) dX6_entry_2 ⟨Nat.zero_le _, Nat.zero_le _⟩) rfl ?_
  refine cv_if_eq (tgt := 17) (q := 8) C dX6_entry_5 (by decide) rfl (fun h2 => ?_) (fun h2 => ?_)
  · have hm := cv_if_t h2 hm
    refine cv_bipush (v := -101) (q := 19) C dX6_entry_17 (by decide) rfl ?_
    obtain rfl := Option.some.inj hm
    exact cv_iret C hr hk dX6_entry_19
  · have hm := cv_if_f h2 hm
    refine cv_aload_n (i := 0) (q := 9) 0 C dX6_entry_8 rfl rfl rfl ?_
    refine cv_iload_n (i := 1) (q := 10) 1 C dX6_entry_9 rfl rfl rfl ?_
    refine cv_iload_n (i := 2) (q := 11) 2 C dX6_entry_10 rfl rfl rfl ?_
    obtain ⟨r3, hr3, hm⟩ := cv_bd_s hm
    refine cv_goW (q := 14) C (KX6_tellEntry (l := l) (σ := σ) (D := D) (cy := cy)  q  S a1 a2 hr3) (cv_rv (As := [.int a1, .int a2]) (st := []) (n := 2) (q0 := 0) (ci := 6) C (KX6_tellEntry (l := l) (σ := σ) (D := D) (cy := cy)  q  S a1 a2 hr3) rfl rfl gX6_entry_X6_tellEntry rfl ⟨rfl, rfl⟩ (by decide +kernel) rfl ⟨Nat.le_of_ble_eq_true rfl, Nat.le_of_ble_eq_true rfl⟩ rfl (Nat.le_of_ble_eq_true rfl) dX6_entry_11 ⟨Nat.zero_le _, Nat.zero_le _⟩) rfl ?_
    refine cv_goto (tgt := 19) C dX6_entry_14 (by decide) ?_
    obtain rfl := Option.some.inj hm
    exact cv_iret C hr hk dX6_entry_19
def fX6_as (S : SX6) (a1 : Int32) (a2 : Int32) : Option (Int32) :=
  cv_bd (fX6_isThere S a1) fun r1 =>
  if r1 = 0 then
    (
    some (-101 : Int32)
    )
  else
    (
    cv_bd (fX6_in ((a2).toInt64) (0 : Int64) (4 : Int64)) fun r3 =>
    if r3 = 0 then
      (
      some (-102 : Int32)
      )
    else
      (
      cv_bd (
        if a2 = 0 then
          (
          some (1 : Int32)
          )
        else
          (
          cv_gd (0 ≤ (a1).toInt ∧ (a1).toInt < 100) <|
          if a2 = ((gX6_kinds S) (a1).toNatClampNeg) then
            (
            some (1 : Int32)
            )
          else
            (
            if a2 = (1 : Int32) then
              (
              cv_gd (0 ≤ (a1).toInt ∧ (a1).toInt < 100) <|
              if ((gX6_kinds S) (a1).toNatClampNeg) = (4 : Int32) then
                (
                some (1 : Int32)
                )
              else
                (
                some (0 : Int32)
                )
              )
            else
              (
              some (0 : Int32)
              )
            )
          )
      ) fun j5 =>
      if j5 = 0 then
        (
        some (-1 : Int32)
        )
      else
        (
        some a1
        )
      )
    )
abbrev rX6_as : Room := { frames := 2, cells := 0, slots := 0, locals := 46 }
theorem iX6_as_X6 : ∀ w ∈ u_ws RX6 TX6 50, w ∈ wsX6_as := fun w h => List.mem_cons_of_mem _ (List.mem_append_right _ h)
set_option maxHeartbeats 4000000 in
set_option maxRecDepth 100000 in
theorem KX6_as {l : Launch} {σ : Nat → Nat} {D : va_G} {cy : ClassId} (q : Nat → Nat) (S : SX6) (a1 : Int32) (a2 : Int32) {res : Int32} (hm : fX6_as S a1 a2 = some res) : cv_M l yX6_as wsX6_as rX6_as σ D [(cy, .int)] [.ref (q 0), .int a1, .int a2] (wX6 q cy S) (some (.int res)) (wX6 q cy S) := by
  unfold fX6_as at hm
  refine cv_M.of (own := RX6) (by decide +kernel) rfl rfl (lv := [(0, .ref (q 0)), (1, .int a1), (2, .int a2)]) rfl (Nat.le_of_ble_eq_true rfl) ?_
  intro p e s m args below meth c A C hr hk
  refine cv_aload_n (i := 0) (q := 1) 0 C dX6_as_0 rfl rfl rfl ?_
  refine cv_iload_n (i := 1) (q := 2) 1 C dX6_as_1 rfl rfl rfl ?_
  obtain ⟨r1, hr1, hm⟩ := cv_bd_s hm
  refine cv_goW (q := 5) C (KX6_isThere (l := l) (σ := σ) (D := D) (cy := cy)  q  S a1 hr1) (cv_rv (As := [.int a1]) (st := []) (n := 1) (q0 := 0) (ci := 6) C (KX6_isThere (l := l) (σ := σ) (D := D) (cy := cy)  q  S a1 hr1) rfl rfl gX6_as_X6_isThere rfl ⟨rfl, rfl⟩ (by decide +kernel) rfl ⟨Nat.le_of_ble_eq_true rfl, Nat.le_of_ble_eq_true rfl⟩ rfl (Nat.le_of_ble_eq_true rfl) dX6_as_2 ⟨Nat.zero_le _, Nat.zero_le _⟩) rfl ?_
  refine cv_if_ne (tgt := 11) (q := 8) C dX6_as_5 (by decide) rfl (fun h2 => ?_) (fun h2 => ?_)
  · have hm := cv_if_f h2 hm
    refine cv_iload_n (i := 2) (q := 12) 2 C dX6_as_11 rfl rfl rfl ?_
    refine cv_i2l (q := 13) C dX6_as_12 rfl ?_
    refine cv_lconst (v := 0) (q := 14) C dX6_as_13 (by decide) rfl ?_
    refine cv_ldc2 (v := 4) (q := 17) C dX6_as_14 (List.mem_of_getElem? (i := 1) rfl) rfl ?_
    obtain ⟨r3, hr3, hm⟩ := cv_bd_s hm
    refine cv_goE (q := 20) C (KX6_in (l := l) (σ := σ) (D := D) (cy := cy)     ((a2).toInt64) (0 : Int64) (4 : Int64) hr3) (cv_rs (As := [.long (a2).toInt64, .long (0 : Int64), .long (4 : Int64)]) (st := []) (n := 3) C (KX6_in (l := l) (σ := σ) (D := D) (cy := cy)     ((a2).toInt64) (0 : Int64) (4 : Int64) hr3) gX6_as_X6_in rfl ⟨rfl, rfl⟩ (by decide +kernel) rfl ⟨Nat.le_of_ble_eq_true rfl, Nat.le_of_ble_eq_true rfl⟩ rfl (Nat.le_of_ble_eq_true rfl) dX6_as_17 ⟨Nat.zero_le _, Nat.zero_le _⟩) rfl ?_
    refine cv_if_ne (tgt := 26) (q := 23) C dX6_as_20 (by decide) rfl (fun h4 => ?_) (fun h4 => ?_)
    · have hm := cv_if_f h4 hm
      refine cv_iload_n (i := 2) (q := 27) 2 C dX6_as_26 rfl rfl rfl ?_
      obtain ⟨j5, hj5, hm⟩ := cv_bd_s hm
      refine cv_cut (ws' := (wX6 q cy S)) (pc' := 60) (lv' := [(1, .int a1)]) (st' := [.int j5]) ?_ (fun K6 => ?_)
      · refine cv_istore_n (i := 3) (lv' := [(3, .int j5), (1, .int a1)]) (q := 61) C dX6_as_60 rfl (by decide) rfl rfl ?_
        refine cv_iload_n (i := 3) (q := 62) 0 C dX6_as_61 rfl rfl rfl ?_
        refine cv_if_eq (tgt := 69) (q := 65) C dX6_as_62 (by decide) rfl (fun h7 => ?_) (fun h7 => ?_)
        · have hm := cv_if_t h7 hm
          refine cv_iconst (v := -1) (q := 70) C dX6_as_69 (by decide) rfl ?_
          obtain rfl := Option.some.inj hm
          exact cv_iret C hr hk dX6_as_70
        · have hm := cv_if_f h7 hm
          refine cv_iload_n (i := 1) (q := 66) 1 C dX6_as_65 rfl rfl rfl ?_
          refine cv_goto (tgt := 70) C dX6_as_66 (by decide) ?_
          obtain rfl := Option.some.inj hm
          exact cv_iret C hr hk dX6_as_70
      · have hm := hj5
        refine cv_if_eq (tgt := 55) (q := 30) C dX6_as_27 (by decide) rfl (fun h8 => ?_) (fun h8 => ?_)
        · have hm := cv_if_t h8 hm
          refine cv_iconst (v := 1) (q := 56) C dX6_as_55 (by decide) rfl ?_
          refine cv_goto (tgt := 60) C dX6_as_56 (by decide) ?_
          obtain rfl := Option.some.inj hm
          refine cv_sub [1] rfl ?_
          exact K6
        · have hm := cv_if_f h8 hm
          refine cv_iload_n (i := 2) (q := 31) 2 C dX6_as_30 rfl rfl rfl ?_
          refine cv_aload_n (i := 0) (q := 32) 0 C dX6_as_31 rfl rfl rfl ?_
          refine cv_get (q := 35) C iX6_as_X6 0 rfl rfl 12 (by decide) (List.mem_of_getElem? (i := 2) rfl) rfl rfl dX6_as_32 rfl ?_
          refine cv_iload_n (i := 1) (q := 36) 1 C dX6_as_35 rfl rfl rfl ?_
          obtain ⟨g9, hm⟩ := cv_gd_s hm
          refine cv_iald (q := 37) C 11 0 rfl rfl (vp_in_iff.mpr g9) dX6_as_36 rfl ?_
          refine cv_icmp_eq (tgt := 55) (q := 40) C dX6_as_37 (by decide) rfl (fun h10 => ?_) (fun h10 => ?_)
          · have hm := cv_if_t h10 hm
            refine cv_iconst (v := 1) (q := 56) C dX6_as_55 (by decide) rfl ?_
            refine cv_goto (tgt := 60) C dX6_as_56 (by decide) ?_
            obtain rfl := Option.some.inj hm
            refine cv_sub [1] rfl ?_
            exact K6
          · have hm := cv_if_f h10 hm
            refine cv_iload_n (i := 2) (q := 41) 2 C dX6_as_40 rfl rfl rfl ?_
            refine cv_iconst (v := 1) (q := 42) C dX6_as_41 (by decide) rfl ?_
            refine cv_icmp_ne (tgt := 59) (q := 45) C dX6_as_42 (by decide) rfl (fun h11 => ?_) (fun h11 => ?_)
            · have hm := cv_if_f h11 hm
              refine cv_iconst (v := 0) (q := 60) C dX6_as_59 (by decide) rfl ?_
              obtain rfl := Option.some.inj hm
              refine cv_sub [1] rfl ?_
              exact K6
            · have hm := cv_if_t h11 hm
              refine cv_aload_n (i := 0) (q := 46) 0 C dX6_as_45 rfl rfl rfl ?_
              refine cv_get (q := 49) C iX6_as_X6 0 rfl rfl 12 (by decide) (List.mem_of_getElem? (i := 2) rfl) rfl rfl dX6_as_46 rfl ?_
              refine cv_iload_n (i := 1) (q := 50) 1 C dX6_as_49 rfl rfl rfl ?_
              obtain ⟨g12, hm⟩ := cv_gd_s hm
              refine cv_iald (q := 51) C 11 0 rfl rfl (vp_in_iff.mpr g12) dX6_as_50 rfl ?_
              refine cv_iconst (v := 4) (q := 52) C dX6_as_51 (by decide) rfl ?_
              refine cv_icmp_ne (tgt := 59) (q := 55) C dX6_as_52 (by decide) rfl (fun h13 => ?_) (fun h13 => ?_)
              · have hm := cv_if_f h13 hm
                refine cv_iconst (v := 0) (q := 60) C dX6_as_59 (by decide) rfl ?_
                obtain rfl := Option.some.inj hm
                refine cv_sub [1] rfl ?_
                exact K6
              · have hm := cv_if_t h13 hm
                refine cv_iconst (v := 1) (q := 56) C dX6_as_55 (by decide) rfl ?_
                refine cv_goto (tgt := 60) C dX6_as_56 (by decide) ?_
                obtain rfl := Option.some.inj hm
                refine cv_sub [1] rfl ?_
                exact K6
    · have hm := cv_if_t h4 hm
      refine cv_bipush (v := -102) (q := 25) C dX6_as_23 (by decide) rfl ?_
      obtain rfl := Option.some.inj hm
      exact cv_iret C hr hk dX6_as_25
  · have hm := cv_if_t h2 hm
    refine cv_bipush (v := -101) (q := 10) C dX6_as_8 (by decide) rfl ?_
    obtain rfl := Option.some.inj hm
    exact cv_iret C hr hk dX6_as_10
def fX6_at_L30 (S : SX6) (u1 : Int32) : Nat → Int32 → Option (Int32)
  | 0, _ => none
  | n + 1, y2 =>
    cv_gd (0 ≤ (y2).toInt ∧ (y2).toInt < 200) <|
    if ((gX6_there S) (y2).toNatClampNeg) = 0 then
      (
      cv_lt (y2 + (1 : Int32)) fun x8 =>
      fX6_at_L30 S u1 n x8
      )
    else
      (
      cv_bd (fX6_lessMany S y2) fun r9 =>
      if u1 ≤ r9 then
        (
        some y2
        )
      else
        (
        cv_lt (y2 + (1 : Int32)) fun x11 =>
        fX6_at_L30 S u1 n x11
        )
      )
def fX6_at (S : SX6) (a1 : Int32) : Option (Int32) :=
  cv_bd (fX6_lacks S) fun r1 =>
  if r1 = 0 then
    (
    cv_gd (0 ≤ ((0 : Int32)).toInt ∧ ((0 : Int32)).toInt < 2) <|
    cv_bd (fX6_in ((a1).toInt64) (0 : Int64) (((((gX6_many S) ((0 : Int32)).toNatClampNeg) - (1 : Int32))).toInt64)) fun r4 =>
    if r4 = 0 then
      (
      some (-101 : Int32)
      )
    else
      (
      cv_bd (fX6_at_L30 S a1 256 (0 : Int32)) fun j12 =>
      some j12
      )
    )
  else
    (
    some (-101 : Int32)
    )
abbrev rX6_at : Room := { frames := 1, cells := 0, slots := 0, locals := 25 }
theorem iX6_at_X6 : ∀ w ∈ u_ws RX6 TX6 50, w ∈ wsX6_at := fun w h => List.mem_cons_of_mem _ (List.mem_append_right _ h)
set_option maxHeartbeats 4000000 in
set_option maxRecDepth 100000 in
theorem vX6_at_L30 {p : Program} {l : Launch} {e : Env} {s : State} {m : MethodId} {args : Array Value} {below : List Frame} {meth : Method} {c : Code} {σ : Nat → Nat} {D : va_G} {A : Nat → Prop} {cy : ClassId} (q : Nat → Nat) (S : SX6) (u1 : Int32) (C : cv_C p s m args c cX6_at 3 RX6 wsX6_at σ D [(cy, .int)] A) {Q : State → Prop} {j : Int32} : ∀ (n : Nat) (y2 : Int32), fX6_at_L30 S u1 n y2 = some j → cv_V p l e rX6_at s m args below meth c 3 D A Q 0 0 (wX6 q cy S) 54 [(2, .int j)] [] → cv_V p l e rX6_at s m args below meth c 3 D A Q 0 0 (wX6 q cy S) 30 [(0, .ref (q 0)), (1, .int u1), (2, .int y2)] [] := by
  intro n
  induction n with
  | zero => intro y2 hm kx; cases hm
  | succ n ih =>
    intro y2 hm kx
    have hm : fX6_at_L30 S u1 (n + 1) y2 = some j := hm
    unfold fX6_at_L30 at hm
    refine cv_aload_n (i := 0) (q := 31) 0 C dX6_at_30 rfl rfl rfl ?_
    refine cv_get (q := 34) C iX6_at_X6 0 rfl rfl 5 (by decide) (List.mem_of_getElem? (i := 2) rfl) rfl rfl dX6_at_31 rfl ?_
    refine cv_iload_n (i := 2) (q := 35) 2 C dX6_at_34 rfl rfl rfl ?_
    obtain ⟨g6, hm⟩ := cv_gd_s hm
    refine cv_iald (q := 36) C 5 0 rfl rfl (vp_in_iff.mpr g6) dX6_at_35 rfl ?_
    refine cv_if_eq (tgt := 48) (q := 39) C dX6_at_36 (by decide) rfl (fun h7 => ?_) (fun h7 => ?_)
    · have hm := cv_if_t h7 hm
      obtain ⟨x8, ex8, hm⟩ := cv_lt_s hm
      refine cv_iinc (v := x8) (lv' := [(2, .int x8), (0, .ref (q 0)), (1, .int u1)]) (q := 51) 2 C dX6_at_48 rfl (by rw [ex8]; rfl) (by decide) rfl rfl ?_
      refine cv_goto (tgt := 30) C dX6_at_51 (by decide) ?_
      refine cv_sub [1, 2, 0] rfl ?_
      exact ih x8 hm kx
    · have hm := cv_if_f h7 hm
      refine cv_aload_n (i := 0) (q := 40) 0 C dX6_at_39 rfl rfl rfl ?_
      refine cv_iload_n (i := 2) (q := 41) 2 C dX6_at_40 rfl rfl rfl ?_
      obtain ⟨r9, hr9, hm⟩ := cv_bd_s hm
      refine cv_goW (q := 44) C (KX6_lessMany (l := l) (σ := σ) (D := D) (cy := cy)  q  S y2 hr9) (cv_rv (As := [.int y2]) (st := []) (n := 1) (q0 := 0) (ci := 6) C (KX6_lessMany (l := l) (σ := σ) (D := D) (cy := cy)  q  S y2 hr9) rfl rfl gX6_at_X6_lessMany rfl ⟨rfl, rfl⟩ (by decide +kernel) rfl ⟨Nat.le_of_ble_eq_true rfl, Nat.le_of_ble_eq_true rfl⟩ rfl (Nat.le_of_ble_eq_true rfl) dX6_at_41 ⟨Nat.zero_le _, Nat.zero_le _⟩) rfl ?_
      refine cv_iload_n (i := 1) (q := 45) 1 C dX6_at_44 rfl rfl rfl ?_
      refine cv_icmp_ge (tgt := 54) (q := 48) C dX6_at_45 (by decide) rfl (fun h10 => ?_) (fun h10 => ?_)
      · have hm := cv_if_t h10 hm
        obtain rfl := Option.some.inj hm
        refine cv_sub [2] rfl ?_
        exact kx
      · have hm := cv_if_f h10 hm
        obtain ⟨x11, ex11, hm⟩ := cv_lt_s hm
        refine cv_iinc (v := x11) (lv' := [(2, .int x11), (0, .ref (q 0)), (1, .int u1)]) (q := 51) 2 C dX6_at_48 rfl (by rw [ex11]; rfl) (by decide) rfl rfl ?_
        refine cv_goto (tgt := 30) C dX6_at_51 (by decide) ?_
        refine cv_sub [1, 2, 0] rfl ?_
        exact ih x11 hm kx
set_option maxHeartbeats 4000000 in
set_option maxRecDepth 100000 in
theorem KX6_at {l : Launch} {σ : Nat → Nat} {D : va_G} {cy : ClassId} (q : Nat → Nat) (S : SX6) (a1 : Int32) {res : Int32} (hm : fX6_at S a1 = some res) : cv_M l yX6_at wsX6_at rX6_at σ D [(cy, .int)] [.ref (q 0), .int a1] (wX6 q cy S) (some (.int res)) (wX6 q cy S) := by
  unfold fX6_at at hm
  refine cv_M.of (own := RX6) (by decide +kernel) rfl rfl (lv := [(0, .ref (q 0)), (1, .int a1)]) rfl (Nat.le_of_ble_eq_true rfl) ?_
  intro p e s m args below meth c A C hr hk
  refine cv_aload_n (i := 0) (q := 1) 0 C dX6_at_0 rfl rfl rfl ?_
  obtain ⟨r1, hr1, hm⟩ := cv_bd_s hm
  refine cv_goW (q := 4) C (KX6_lacks (l := l) (σ := σ) (D := D) (cy := cy)  q  S  hr1) (cv_rv (As := []) (st := []) (n := 0) (q0 := 0) (ci := 6) C (KX6_lacks (l := l) (σ := σ) (D := D) (cy := cy)  q  S  hr1) rfl rfl gX6_at_X6_lacks rfl ⟨rfl, rfl⟩ (by decide +kernel) rfl ⟨Nat.le_of_ble_eq_true rfl, Nat.le_of_ble_eq_true rfl⟩ rfl (Nat.le_of_ble_eq_true rfl) dX6_at_1 ⟨Nat.zero_le _, Nat.zero_le _⟩) rfl ?_
  refine cv_if_ne (tgt := 25) (q := 7) C dX6_at_4 (by decide) rfl (fun h2 => ?_) (fun h2 => ?_)
  · have hm := cv_if_f h2 hm
    refine cv_bipush (v := -101) (q := 27) C dX6_at_25 (by decide) rfl ?_
    obtain rfl := Option.some.inj hm
    exact cv_iret C hr hk dX6_at_27
  · have hm := cv_if_t h2 hm
    refine cv_iload_n (i := 1) (q := 8) 1 C dX6_at_7 rfl rfl rfl ?_
    refine cv_i2l (q := 9) C dX6_at_8 rfl ?_
    refine cv_lconst (v := 0) (q := 10) C dX6_at_9 (by decide) rfl ?_
    refine cv_aload_n (i := 0) (q := 11) 0 C dX6_at_10 rfl rfl rfl ?_
    refine cv_get (q := 14) C iX6_at_X6 0 rfl rfl 7 (by decide) (List.mem_of_getElem? (i := 1) rfl) rfl rfl dX6_at_11 rfl ?_
    refine cv_iconst (v := 0) (q := 15) C dX6_at_14 (by decide) rfl ?_
    obtain ⟨g3, hm⟩ := cv_gd_s hm
    refine cv_iald (q := 16) C 7 0 rfl rfl (vp_in_iff.mpr g3) dX6_at_15 rfl ?_
    refine cv_iconst (v := 1) (q := 17) C dX6_at_16 (by decide) rfl ?_
    refine cv_isub (q := 18) C dX6_at_17 rfl ?_
    refine cv_i2l (q := 19) C dX6_at_18 rfl ?_
    obtain ⟨r4, hr4, hm⟩ := cv_bd_s hm
    refine cv_goE (q := 22) C (KX6_in (l := l) (σ := σ) (D := D) (cy := cy)     ((a1).toInt64) (0 : Int64) (((((gX6_many S) ((0 : Int32)).toNatClampNeg) - (1 : Int32))).toInt64) hr4) (cv_rs (As := [.long (a1).toInt64, .long (0 : Int64), .long ((((gX6_many S) ((0 : Int32)).toNatClampNeg) - (1 : Int32))).toInt64]) (st := []) (n := 3) C (KX6_in (l := l) (σ := σ) (D := D) (cy := cy)     ((a1).toInt64) (0 : Int64) (((((gX6_many S) ((0 : Int32)).toNatClampNeg) - (1 : Int32))).toInt64) hr4) gX6_at_X6_in rfl ⟨rfl, rfl⟩ (by decide +kernel) rfl ⟨Nat.le_of_ble_eq_true rfl, Nat.le_of_ble_eq_true rfl⟩ rfl (Nat.le_of_ble_eq_true rfl) dX6_at_19 ⟨Nat.zero_le _, Nat.zero_le _⟩) rfl ?_
    refine cv_if_ne (tgt := 28) (q := 25) C dX6_at_22 (by decide) rfl (fun h5 => ?_) (fun h5 => ?_)
    · have hm := cv_if_f h5 hm
      refine cv_iconst (v := 0) (q := 29) C dX6_at_28 (by decide) rfl ?_
      refine cv_istore_n (i := 2) (lv' := [(2, .int (0 : Int32)), (0, .ref (q 0)), (1, .int a1)]) (q := 30) C dX6_at_29 rfl (by decide) rfl rfl ?_
      obtain ⟨j12, hj12, hm⟩ := cv_bd_s hm
      refine cv_cut (ws' := (wX6 q cy S)) (pc' := 54) (lv' := [(2, .int j12)]) (st' := []) ?_ (fun K13 => ?_)
      · refine cv_iload_n (i := 2) (q := 55) 0 C dX6_at_54 rfl rfl rfl ?_
        obtain rfl := Option.some.inj hm
        exact cv_iret C hr hk dX6_at_55
      · refine cv_sub [1, 2, 0] rfl ?_
        exact vX6_at_L30 q S a1 C 256 (0 : Int32) hj12 K13
    · have hm := cv_if_t h5 hm
      refine cv_bipush (v := -101) (q := 27) C dX6_at_25 (by decide) rfl ?_
      obtain rfl := Option.some.inj hm
      exact cv_iret C hr hk dX6_at_27
def fX6_next_L12 (S : SX6) (u1 : Int32) : Nat → Int32 → Option (Int32)
  | 0, _ => none
  | n + 1, y2 =>
    if (100 : Int32) ≤ y2 then
      (
      some (-1 : Int32)
      )
    else
      (
      cv_gd (0 ≤ (y2).toInt ∧ (y2).toInt < 200) <|
      if ((gX6_there S) (y2).toNatClampNeg) = (1 : Int32) then
        (
        if y2 ≤ u1 then
          (
          cv_lt (y2 + (1 : Int32)) fun x8 =>
          fX6_next_L12 S u1 n x8
          )
        else
          (
          some y2
          )
        )
      else
        (
        cv_lt (y2 + (1 : Int32)) fun x6 =>
        fX6_next_L12 S u1 n x6
        )
      )
def fX6_next (S : SX6) (a1 : Int32) : Option (Int32) :=
  cv_bd (fX6_lacks S) fun r1 =>
  if r1 = 0 then
    (
    fX6_next_L12 S a1 256 (0 : Int32)
    )
  else
    (
    some (-103 : Int32)
    )
abbrev rX6_next : Room := { frames := 1, cells := 0, slots := 0, locals := 20 }
theorem iX6_next_X6 : ∀ w ∈ u_ws RX6 TX6 50, w ∈ wsX6_next := fun w h => List.mem_cons_of_mem _ (List.mem_append_right _ h)
set_option maxHeartbeats 4000000 in
set_option maxRecDepth 100000 in
theorem vX6_next_L12 {p : Program} {l : Launch} {e : Env} {s : State} {m : MethodId} {args : Array Value} {below : List Frame} {meth : Method} {c : Code} {σ : Nat → Nat} {D : va_G} {A : Nat → Prop} {cy : ClassId} (q : Nat → Nat) (S : SX6) (u1 : Int32) (C : cv_C p s m args c cX6_next 3 RX6 wsX6_next σ D [(cy, .int)] A) (hr : meth.sig.returnType = some .int) (hk : meth.locks = false) {res : Int32} : ∀ (n : Nat) (y2 : Int32), fX6_next_L12 S u1 n y2 = some res → cv_V p l e rX6_next s m args below meth c 3 D A (cv_Q below (some (.int res)) (wX6 q cy S) D [(cy, .int)] A args s) 0 0 (wX6 q cy S) 12 [(0, .ref (q 0)), (1, .int u1), (2, .int y2)] [] := by
  intro n
  induction n with
  | zero => intro y2 hm; cases hm
  | succ n ih =>
    intro y2 hm
    have hm : fX6_next_L12 S u1 (n + 1) y2 = some res := hm
    unfold fX6_next_L12 at hm
    refine cv_iload_n (i := 2) (q := 13) 2 C dX6_next_12 rfl rfl rfl ?_
    refine cv_bipush (v := 100) (q := 15) C dX6_next_13 (by decide) rfl ?_
    refine cv_icmp_ge (tgt := 41) (q := 18) C dX6_next_15 (by decide) rfl (fun h3 => ?_) (fun h3 => ?_)
    · have hm := cv_if_t h3 hm
      refine cv_iconst (v := -1) (q := 42) C dX6_next_41 (by decide) rfl ?_
      obtain rfl := Option.some.inj hm
      exact cv_iret C hr hk dX6_next_42
    · have hm := cv_if_f h3 hm
      refine cv_aload_n (i := 0) (q := 19) 0 C dX6_next_18 rfl rfl rfl ?_
      refine cv_get (q := 22) C iX6_next_X6 0 rfl rfl 5 (by decide) (List.mem_of_getElem? (i := 1) rfl) rfl rfl dX6_next_19 rfl ?_
      refine cv_iload_n (i := 2) (q := 23) 2 C dX6_next_22 rfl rfl rfl ?_
      obtain ⟨g4, hm⟩ := cv_gd_s hm
      refine cv_iald (q := 24) C 5 0 rfl rfl (vp_in_iff.mpr g4) dX6_next_23 rfl ?_
      refine cv_iconst (v := 1) (q := 25) C dX6_next_24 (by decide) rfl ?_
      refine cv_icmp_ne (tgt := 35) (q := 28) C dX6_next_25 (by decide) rfl (fun h5 => ?_) (fun h5 => ?_)
      · have hm := cv_if_f h5 hm
        obtain ⟨x6, ex6, hm⟩ := cv_lt_s hm
        refine cv_iinc (v := x6) (lv' := [(2, .int x6), (0, .ref (q 0)), (1, .int u1)]) (q := 38) 2 C dX6_next_35 rfl (by rw [ex6]; rfl) (by decide) rfl rfl ?_
        refine cv_goto (tgt := 12) C dX6_next_38 (by decide) ?_
        refine cv_sub [1, 2, 0] rfl ?_
        exact ih x6 hm
      · have hm := cv_if_t h5 hm
        refine cv_iload_n (i := 2) (q := 29) 2 C dX6_next_28 rfl rfl rfl ?_
        refine cv_iload_n (i := 1) (q := 30) 1 C dX6_next_29 rfl rfl rfl ?_
        refine cv_icmp_le (tgt := 35) (q := 33) C dX6_next_30 (by decide) rfl (fun h7 => ?_) (fun h7 => ?_)
        · have hm := cv_if_t h7 hm
          obtain ⟨x8, ex8, hm⟩ := cv_lt_s hm
          refine cv_iinc (v := x8) (lv' := [(2, .int x8), (0, .ref (q 0)), (1, .int u1)]) (q := 38) 2 C dX6_next_35 rfl (by rw [ex8]; rfl) (by decide) rfl rfl ?_
          refine cv_goto (tgt := 12) C dX6_next_38 (by decide) ?_
          refine cv_sub [1, 2, 0] rfl ?_
          exact ih x8 hm
        · have hm := cv_if_f h7 hm
          refine cv_iload_n (i := 2) (q := 34) 2 C dX6_next_33 rfl rfl rfl ?_
          obtain rfl := Option.some.inj hm
          exact cv_iret C hr hk dX6_next_34
set_option maxHeartbeats 4000000 in
set_option maxRecDepth 100000 in
theorem KX6_next {l : Launch} {σ : Nat → Nat} {D : va_G} {cy : ClassId} (q : Nat → Nat) (S : SX6) (a1 : Int32) {res : Int32} (hm : fX6_next S a1 = some res) : cv_M l yX6_next wsX6_next rX6_next σ D [(cy, .int)] [.ref (q 0), .int a1] (wX6 q cy S) (some (.int res)) (wX6 q cy S) := by
  unfold fX6_next at hm
  refine cv_M.of (own := RX6) (by decide +kernel) rfl rfl (lv := [(0, .ref (q 0)), (1, .int a1)]) rfl (Nat.le_of_ble_eq_true rfl) ?_
  intro p e s m args below meth c A C hr hk
  refine cv_aload_n (i := 0) (q := 1) 0 C dX6_next_0 rfl rfl rfl ?_
  obtain ⟨r1, hr1, hm⟩ := cv_bd_s hm
  refine cv_goW (q := 4) C (KX6_lacks (l := l) (σ := σ) (D := D) (cy := cy)  q  S  hr1) (cv_rv (As := []) (st := []) (n := 0) (q0 := 0) (ci := 6) C (KX6_lacks (l := l) (σ := σ) (D := D) (cy := cy)  q  S  hr1) rfl rfl gX6_next_X6_lacks rfl ⟨rfl, rfl⟩ (by decide +kernel) rfl ⟨Nat.le_of_ble_eq_true rfl, Nat.le_of_ble_eq_true rfl⟩ rfl (Nat.le_of_ble_eq_true rfl) dX6_next_1 ⟨Nat.zero_le _, Nat.zero_le _⟩) rfl ?_
  refine cv_if_eq (tgt := 10) (q := 7) C dX6_next_4 (by decide) rfl (fun h2 => ?_) (fun h2 => ?_)
  · have hm := cv_if_t h2 hm
    refine cv_iconst (v := 0) (q := 11) C dX6_next_10 (by decide) rfl ?_
    refine cv_istore_n (i := 2) (lv' := [(2, .int (0 : Int32)), (0, .ref (q 0)), (1, .int a1)]) (q := 12) C dX6_next_11 rfl (by decide) rfl rfl ?_
    refine cv_sub [1, 2, 0] rfl ?_
    exact vX6_next_L12 q S a1 C hr hk 256 (0 : Int32) hm
  · have hm := cv_if_f h2 hm
    refine cv_bipush (v := -103) (q := 9) C dX6_next_7 (by decide) rfl ?_
    obtain rfl := Option.some.inj hm
    exact cv_iret C hr hk dX6_next_9
def fX6_put (S : SX6) (a1 : Int32) (a2 : Int32) (a3 : Int32) : Option (Int32 × SX6) :=
  cv_bd (fX6_in ((a1).toInt64) (0 : Int64) (4 : Int64)) fun r1 =>
  if r1 = 0 then
    (
    some ((-102 : Int32), S)
    )
  else
    (
    cv_bd (fX6_in ((a2).toInt64) (0 : Int64) (99 : Int64)) fun r3 =>
    if r3 = 0 then
      (
      some ((-102 : Int32), S)
      )
    else
      (
      cv_bd (fX6_in ((a3).toInt64) (0 : Int64) (999 : Int64)) fun r5 =>
      if r5 = 0 then
        (
        some ((-102 : Int32), S)
        )
      else
        (
        cv_bd (fX6_lacks S) fun r7 =>
        if r7 = 0 then
          (
          cv_gd (0 ≤ (a2).toInt ∧ (a2).toInt < 200) <|
          if ((gX6_there S) (a2).toNatClampNeg) = (1 : Int32) then
            (
            cv_gd (0 ≤ (a2).toInt ∧ (a2).toInt < 100) <|
            if ((gX6_kinds S) (a2).toNatClampNeg) = (4 : Int32) then
              (
              some ((-103 : Int32), S)
              )
            else
              (
              cv_gd (0 ≤ (a2).toInt ∧ (a2).toInt < 200) <|
              if ((gX6_there S) (a2).toNatClampNeg) = (1 : Int32) then
                (
                cv_gd (0 ≤ (a2).toInt ∧ (a2).toInt < 100) <|
                cv_lt (sX6_kinds S (upd (gX6_kinds S) (a2).toNatClampNeg a1)) fun s28 =>
                cv_gd (0 ≤ (a2).toInt ∧ (a2).toInt < 100) <|
                cv_lt (sX6_values s28 (upd (gX6_values s28) (a2).toNatClampNeg a3)) fun s30 =>
                some ((0 : Int32), s30)
                )
              else
                (
                cv_gd (0 ≤ ((0 : Int32)).toInt ∧ ((0 : Int32)).toInt < 2) <|
                if ((gX6_many S) ((0 : Int32)).toNatClampNeg) = (40 : Int32) then
                  (
                  some ((-104 : Int32), S)
                  )
                else
                  (
                  cv_bd (fX6_putNew S a1 a2 a3) fun r26 =>
                  some ((gX6_builtNow r26), r26)
                  )
                )
              )
            )
          else
            (
            cv_gd (0 ≤ (a2).toInt ∧ (a2).toInt < 200) <|
            if ((gX6_there S) (a2).toNatClampNeg) = (1 : Int32) then
              (
              cv_gd (0 ≤ (a2).toInt ∧ (a2).toInt < 100) <|
              cv_lt (sX6_kinds S (upd (gX6_kinds S) (a2).toNatClampNeg a1)) fun s17 =>
              cv_gd (0 ≤ (a2).toInt ∧ (a2).toInt < 100) <|
              cv_lt (sX6_values s17 (upd (gX6_values s17) (a2).toNatClampNeg a3)) fun s19 =>
              some ((0 : Int32), s19)
              )
            else
              (
              cv_gd (0 ≤ ((0 : Int32)).toInt ∧ ((0 : Int32)).toInt < 2) <|
              if ((gX6_many S) ((0 : Int32)).toNatClampNeg) = (40 : Int32) then
                (
                some ((-104 : Int32), S)
                )
              else
                (
                cv_bd (fX6_putNew S a1 a2 a3) fun r15 =>
                some ((gX6_builtNow r15), r15)
                )
              )
            )
          )
        else
          (
          some ((-103 : Int32), S)
          )
        )
      )
    )
abbrev rX6_put : Room := { frames := 5, cells := 0, slots := 0, locals := 125 }
theorem iX6_put_X6 : ∀ w ∈ u_ws RX6 TX6 50, w ∈ wsX6_put := fun w h => List.mem_cons_of_mem _ (List.mem_append_right _ h)
set_option maxHeartbeats 4000000 in
set_option maxRecDepth 100000 in
theorem KX6_put {l : Launch} {σ : Nat → Nat} {D : va_G} {cy : ClassId} (q : Nat → Nat) (S : SX6) (a1 : Int32) (a2 : Int32) (a3 : Int32) {res : Int32 × SX6} (hm : fX6_put S a1 a2 a3 = some res) : cv_M l yX6_put wsX6_put rX6_put σ D [(cy, .int)] [.ref (q 0), .int a1, .int a2, .int a3] (wX6 q cy S) (some (.int res.1)) (wX6 q cy res.2) := by
  unfold fX6_put at hm
  refine cv_M.of (own := RX6) (by decide +kernel) rfl rfl (lv := [(0, .ref (q 0)), (1, .int a1), (2, .int a2), (3, .int a3)]) rfl (Nat.le_of_ble_eq_true rfl) ?_
  intro p e s m args below meth c A C hr hk
  refine cv_iload_n (i := 1) (q := 1) 1 C dX6_put_0 rfl rfl rfl ?_
  refine cv_i2l (q := 2) C dX6_put_1 rfl ?_
  refine cv_lconst (v := 0) (q := 3) C dX6_put_2 (by decide) rfl ?_
  refine cv_ldc2 (v := 4) (q := 6) C dX6_put_3 (List.mem_of_getElem? (i := 1) rfl) rfl ?_
  obtain ⟨r1, hr1, hm⟩ := cv_bd_s hm
  refine cv_goE (q := 9) C (KX6_in (l := l) (σ := σ) (D := D) (cy := cy)     ((a1).toInt64) (0 : Int64) (4 : Int64) hr1) (cv_rs (As := [.long (a1).toInt64, .long (0 : Int64), .long (4 : Int64)]) (st := []) (n := 3) C (KX6_in (l := l) (σ := σ) (D := D) (cy := cy)     ((a1).toInt64) (0 : Int64) (4 : Int64) hr1) gX6_put_X6_in rfl ⟨rfl, rfl⟩ (by decide +kernel) rfl ⟨Nat.le_of_ble_eq_true rfl, Nat.le_of_ble_eq_true rfl⟩ rfl (Nat.le_of_ble_eq_true rfl) dX6_put_6 ⟨Nat.zero_le _, Nat.zero_le _⟩) rfl ?_
  refine cv_if_eq (tgt := 36) (q := 12) C dX6_put_9 (by decide) rfl (fun h2 => ?_) (fun h2 => ?_)
  · have hm := cv_if_t h2 hm
    refine cv_bipush (v := -102) (q := 38) C dX6_put_36 (by decide) rfl ?_
    obtain rfl := Option.some.inj hm
    exact cv_iret C hr hk dX6_put_38
  · have hm := cv_if_f h2 hm
    refine cv_iload_n (i := 2) (q := 13) 2 C dX6_put_12 rfl rfl rfl ?_
    refine cv_i2l (q := 14) C dX6_put_13 rfl ?_
    refine cv_lconst (v := 0) (q := 15) C dX6_put_14 (by decide) rfl ?_
    refine cv_ldc2 (v := 99) (q := 18) C dX6_put_15 (List.mem_of_getElem? (i := 2) rfl) rfl ?_
    obtain ⟨r3, hr3, hm⟩ := cv_bd_s hm
    refine cv_goE (q := 21) C (KX6_in (l := l) (σ := σ) (D := D) (cy := cy)     ((a2).toInt64) (0 : Int64) (99 : Int64) hr3) (cv_rs (As := [.long (a2).toInt64, .long (0 : Int64), .long (99 : Int64)]) (st := []) (n := 3) C (KX6_in (l := l) (σ := σ) (D := D) (cy := cy)     ((a2).toInt64) (0 : Int64) (99 : Int64) hr3) gX6_put_X6_in rfl ⟨rfl, rfl⟩ (by decide +kernel) rfl ⟨Nat.le_of_ble_eq_true rfl, Nat.le_of_ble_eq_true rfl⟩ rfl (Nat.le_of_ble_eq_true rfl) dX6_put_18 ⟨Nat.zero_le _, Nat.zero_le _⟩) rfl ?_
    refine cv_if_eq (tgt := 36) (q := 24) C dX6_put_21 (by decide) rfl (fun h4 => ?_) (fun h4 => ?_)
    · have hm := cv_if_t h4 hm
      refine cv_bipush (v := -102) (q := 38) C dX6_put_36 (by decide) rfl ?_
      obtain rfl := Option.some.inj hm
      exact cv_iret C hr hk dX6_put_38
    · have hm := cv_if_f h4 hm
      refine cv_iload_n (i := 3) (q := 25) 3 C dX6_put_24 rfl rfl rfl ?_
      refine cv_i2l (q := 26) C dX6_put_25 rfl ?_
      refine cv_lconst (v := 0) (q := 27) C dX6_put_26 (by decide) rfl ?_
      refine cv_ldc2 (v := 999) (q := 30) C dX6_put_27 (List.mem_of_getElem? (i := 3) rfl) rfl ?_
      obtain ⟨r5, hr5, hm⟩ := cv_bd_s hm
      refine cv_goE (q := 33) C (KX6_in (l := l) (σ := σ) (D := D) (cy := cy)     ((a3).toInt64) (0 : Int64) (999 : Int64) hr5) (cv_rs (As := [.long (a3).toInt64, .long (0 : Int64), .long (999 : Int64)]) (st := []) (n := 3) C (KX6_in (l := l) (σ := σ) (D := D) (cy := cy)     ((a3).toInt64) (0 : Int64) (999 : Int64) hr5) gX6_put_X6_in rfl ⟨rfl, rfl⟩ (by decide +kernel) rfl ⟨Nat.le_of_ble_eq_true rfl, Nat.le_of_ble_eq_true rfl⟩ rfl (Nat.le_of_ble_eq_true rfl) dX6_put_30 ⟨Nat.zero_le _, Nat.zero_le _⟩) rfl ?_
      refine cv_if_ne (tgt := 39) (q := 36) C dX6_put_33 (by decide) rfl (fun h6 => ?_) (fun h6 => ?_)
      · have hm := cv_if_f h6 hm
        refine cv_aload_n (i := 0) (q := 40) 0 C dX6_put_39 rfl rfl rfl ?_
        obtain ⟨r7, hr7, hm⟩ := cv_bd_s hm
        refine cv_goW (q := 43) C (KX6_lacks (l := l) (σ := σ) (D := D) (cy := cy)  q  S  hr7) (cv_rv (As := []) (st := []) (n := 0) (q0 := 0) (ci := 6) C (KX6_lacks (l := l) (σ := σ) (D := D) (cy := cy)  q  S  hr7) rfl rfl gX6_put_X6_lacks rfl ⟨rfl, rfl⟩ (by decide +kernel) rfl ⟨Nat.le_of_ble_eq_true rfl, Nat.le_of_ble_eq_true rfl⟩ rfl (Nat.le_of_ble_eq_true rfl) dX6_put_40 ⟨Nat.zero_le _, Nat.zero_le _⟩) rfl ?_
        refine cv_if_ne (tgt := 66) (q := 46) C dX6_put_43 (by decide) rfl (fun h8 => ?_) (fun h8 => ?_)
        · have hm := cv_if_f h8 hm
          refine cv_bipush (v := -103) (q := 68) C dX6_put_66 (by decide) rfl ?_
          obtain rfl := Option.some.inj hm
          exact cv_iret C hr hk dX6_put_68
        · have hm := cv_if_t h8 hm
          refine cv_aload_n (i := 0) (q := 47) 0 C dX6_put_46 rfl rfl rfl ?_
          refine cv_get (q := 50) C iX6_put_X6 0 rfl rfl 5 (by decide) (List.mem_of_getElem? (i := 4) rfl) rfl rfl dX6_put_47 rfl ?_
          refine cv_iload_n (i := 2) (q := 51) 2 C dX6_put_50 rfl rfl rfl ?_
          obtain ⟨g9, hm⟩ := cv_gd_s hm
          refine cv_iald (q := 52) C 5 0 rfl rfl (vp_in_iff.mpr g9) dX6_put_51 rfl ?_
          refine cv_iconst (v := 1) (q := 53) C dX6_put_52 (by decide) rfl ?_
          refine cv_icmp_ne (tgt := 69) (q := 56) C dX6_put_53 (by decide) rfl (fun h10 => ?_) (fun h10 => ?_)
          · have hm := cv_if_f h10 hm
            refine cv_aload_n (i := 0) (q := 70) 0 C dX6_put_69 rfl rfl rfl ?_
            refine cv_get (q := 73) C iX6_put_X6 0 rfl rfl 5 (by decide) (List.mem_of_getElem? (i := 4) rfl) rfl rfl dX6_put_70 rfl ?_
            refine cv_iload_n (i := 2) (q := 74) 2 C dX6_put_73 rfl rfl rfl ?_
            obtain ⟨g11, hm⟩ := cv_gd_s hm
            refine cv_iald (q := 75) C 5 0 rfl rfl (vp_in_iff.mpr g11) dX6_put_74 rfl ?_
            refine cv_iconst (v := 1) (q := 76) C dX6_put_75 (by decide) rfl ?_
            refine cv_icmp_ne (tgt := 95) (q := 79) C dX6_put_76 (by decide) rfl (fun h12 => ?_) (fun h12 => ?_)
            · have hm := cv_if_f h12 hm
              refine cv_aload_n (i := 0) (q := 96) 0 C dX6_put_95 rfl rfl rfl ?_
              refine cv_get (q := 99) C iX6_put_X6 0 rfl rfl 7 (by decide) (List.mem_of_getElem? (i := 7) rfl) rfl rfl dX6_put_96 rfl ?_
              refine cv_iconst (v := 0) (q := 100) C dX6_put_99 (by decide) rfl ?_
              obtain ⟨g13, hm⟩ := cv_gd_s hm
              refine cv_iald (q := 101) C 7 0 rfl rfl (vp_in_iff.mpr g13) dX6_put_100 rfl ?_
              refine cv_bipush (v := 40) (q := 103) C dX6_put_101 (by decide) rfl ?_
              refine cv_icmp_ne (tgt := 109) (q := 106) C dX6_put_103 (by decide) rfl (fun h14 => ?_) (fun h14 => ?_)
              · have hm := cv_if_f h14 hm
                refine cv_aload_n (i := 0) (q := 110) 0 C dX6_put_109 rfl rfl rfl ?_
                refine cv_iload_n (i := 1) (q := 111) 1 C dX6_put_110 rfl rfl rfl ?_
                refine cv_iload_n (i := 2) (q := 112) 2 C dX6_put_111 rfl rfl rfl ?_
                refine cv_iload_n (i := 3) (q := 113) 3 C dX6_put_112 rfl rfl rfl ?_
                obtain ⟨r15, hr15, hm⟩ := cv_bd_s hm
                refine cv_goW (q := 116) C (KX6_putNew (l := l) (σ := σ) (D := D) (cy := cy)  q  S a1 a2 a3 hr15) (cv_rv (As := [.int a1, .int a2, .int a3]) (st := []) (n := 3) (q0 := 0) (ci := 6) C (KX6_putNew (l := l) (σ := σ) (D := D) (cy := cy)  q  S a1 a2 a3 hr15) rfl rfl gX6_put_X6_putNew rfl ⟨rfl, rfl⟩ (by decide +kernel) rfl ⟨Nat.le_of_ble_eq_true rfl, Nat.le_of_ble_eq_true rfl⟩ rfl (Nat.le_of_ble_eq_true rfl) dX6_put_113 ⟨Nat.zero_le _, Nat.zero_le _⟩) rfl ?_
                refine cv_aload_n (i := 0) (q := 117) 0 C dX6_put_116 rfl rfl rfl ?_
                refine cv_get (q := 120) C iX6_put_X6 0 rfl rfl 9 (by decide) (List.mem_of_getElem? (i := 8) rfl) rfl rfl dX6_put_117 rfl ?_
                obtain rfl := Option.some.inj hm
                exact cv_iret C hr hk dX6_put_120
              · have hm := cv_if_t h14 hm
                refine cv_bipush (v := -104) (q := 108) C dX6_put_106 (by decide) rfl ?_
                obtain rfl := Option.some.inj hm
                exact cv_iret C hr hk dX6_put_108
            · have hm := cv_if_t h12 hm
              refine cv_aload_n (i := 0) (q := 80) 0 C dX6_put_79 rfl rfl rfl ?_
              refine cv_get (q := 83) C iX6_put_X6 0 rfl rfl 12 (by decide) (List.mem_of_getElem? (i := 5) rfl) rfl rfl dX6_put_80 rfl ?_
              refine cv_iload_n (i := 2) (q := 84) 2 C dX6_put_83 rfl rfl rfl ?_
              refine cv_iload_n (i := 1) (q := 85) 1 C dX6_put_84 rfl rfl rfl ?_
              obtain ⟨g16, hm⟩ := cv_gd_s hm
              obtain ⟨s17, es17, hm⟩ := cv_lt_s hm
              refine cv_iast (q := 86) (ws' := (wX6 q cy s17)) C 11 0 rfl rfl (vp_in_iff.mpr g16) dX6_put_85 rfl (by rw [es17]; rfl) ?_
              refine cv_aload_n (i := 0) (q := 87) 0 C dX6_put_86 rfl rfl rfl ?_
              refine cv_get (q := 90) C iX6_put_X6 0 rfl rfl 13 (by decide) (List.mem_of_getElem? (i := 6) rfl) rfl rfl dX6_put_87 rfl ?_
              refine cv_iload_n (i := 2) (q := 91) 2 C dX6_put_90 rfl rfl rfl ?_
              refine cv_iload_n (i := 3) (q := 92) 3 C dX6_put_91 rfl rfl rfl ?_
              obtain ⟨g18, hm⟩ := cv_gd_s hm
              obtain ⟨s19, es19, hm⟩ := cv_lt_s hm
              refine cv_iast (q := 93) (ws' := (wX6 q cy s19)) C 12 0 rfl rfl (vp_in_iff.mpr g18) dX6_put_92 rfl (by rw [es19]; rfl) ?_
              refine cv_iconst (v := 0) (q := 94) C dX6_put_93 (by decide) rfl ?_
              obtain rfl := Option.some.inj hm
              exact cv_iret C hr hk dX6_put_94
          · have hm := cv_if_t h10 hm
            refine cv_aload_n (i := 0) (q := 57) 0 C dX6_put_56 rfl rfl rfl ?_
            refine cv_get (q := 60) C iX6_put_X6 0 rfl rfl 12 (by decide) (List.mem_of_getElem? (i := 5) rfl) rfl rfl dX6_put_57 rfl ?_
            refine cv_iload_n (i := 2) (q := 61) 2 C dX6_put_60 rfl rfl rfl ?_
            obtain ⟨g20, hm⟩ := cv_gd_s hm
            refine cv_iald (q := 62) C 11 0 rfl rfl (vp_in_iff.mpr g20) dX6_put_61 rfl ?_
            refine cv_iconst (v := 4) (q := 63) C dX6_put_62 (by decide) rfl ?_
            refine cv_icmp_ne (tgt := 69) (q := 66) C dX6_put_63 (by decide) rfl (fun h21 => ?_) (fun h21 => ?_)
            · have hm := cv_if_f h21 hm
              refine cv_aload_n (i := 0) (q := 70) 0 C dX6_put_69 rfl rfl rfl ?_
              refine cv_get (q := 73) C iX6_put_X6 0 rfl rfl 5 (by decide) (List.mem_of_getElem? (i := 4) rfl) rfl rfl dX6_put_70 rfl ?_
              refine cv_iload_n (i := 2) (q := 74) 2 C dX6_put_73 rfl rfl rfl ?_
              obtain ⟨g22, hm⟩ := cv_gd_s hm
              refine cv_iald (q := 75) C 5 0 rfl rfl (vp_in_iff.mpr g22) dX6_put_74 rfl ?_
              refine cv_iconst (v := 1) (q := 76) C dX6_put_75 (by decide) rfl ?_
              refine cv_icmp_ne (tgt := 95) (q := 79) C dX6_put_76 (by decide) rfl (fun h23 => ?_) (fun h23 => ?_)
              · have hm := cv_if_f h23 hm
                refine cv_aload_n (i := 0) (q := 96) 0 C dX6_put_95 rfl rfl rfl ?_
                refine cv_get (q := 99) C iX6_put_X6 0 rfl rfl 7 (by decide) (List.mem_of_getElem? (i := 7) rfl) rfl rfl dX6_put_96 rfl ?_
                refine cv_iconst (v := 0) (q := 100) C dX6_put_99 (by decide) rfl ?_
                obtain ⟨g24, hm⟩ := cv_gd_s hm
                refine cv_iald (q := 101) C 7 0 rfl rfl (vp_in_iff.mpr g24) dX6_put_100 rfl ?_
                refine cv_bipush (v := 40) (q := 103) C dX6_put_101 (by decide) rfl ?_
                refine cv_icmp_ne (tgt := 109) (q := 106) C dX6_put_103 (by decide) rfl (fun h25 => ?_) (fun h25 => ?_)
                · have hm := cv_if_f h25 hm
                  refine cv_aload_n (i := 0) (q := 110) 0 C dX6_put_109 rfl rfl rfl ?_
                  refine cv_iload_n (i := 1) (q := 111) 1 C dX6_put_110 rfl rfl rfl ?_
                  refine cv_iload_n (i := 2) (q := 112) 2 C dX6_put_111 rfl rfl rfl ?_
                  refine cv_iload_n (i := 3) (q := 113) 3 C dX6_put_112 rfl rfl rfl ?_
                  obtain ⟨r26, hr26, hm⟩ := cv_bd_s hm
                  refine cv_goW (q := 116) C (KX6_putNew (l := l) (σ := σ) (D := D) (cy := cy)  q  S a1 a2 a3 hr26) (cv_rv (As := [.int a1, .int a2, .int a3]) (st := []) (n := 3) (q0 := 0) (ci := 6) C (KX6_putNew (l := l) (σ := σ) (D := D) (cy := cy)  q  S a1 a2 a3 hr26) rfl rfl gX6_put_X6_putNew rfl ⟨rfl, rfl⟩ (by decide +kernel) rfl ⟨Nat.le_of_ble_eq_true rfl, Nat.le_of_ble_eq_true rfl⟩ rfl (Nat.le_of_ble_eq_true rfl) dX6_put_113 ⟨Nat.zero_le _, Nat.zero_le _⟩) rfl ?_
                  refine cv_aload_n (i := 0) (q := 117) 0 C dX6_put_116 rfl rfl rfl ?_
                  refine cv_get (q := 120) C iX6_put_X6 0 rfl rfl 9 (by decide) (List.mem_of_getElem? (i := 8) rfl) rfl rfl dX6_put_117 rfl ?_
                  obtain rfl := Option.some.inj hm
                  exact cv_iret C hr hk dX6_put_120
                · have hm := cv_if_t h25 hm
                  refine cv_bipush (v := -104) (q := 108) C dX6_put_106 (by decide) rfl ?_
                  obtain rfl := Option.some.inj hm
                  exact cv_iret C hr hk dX6_put_108
              · have hm := cv_if_t h23 hm
                refine cv_aload_n (i := 0) (q := 80) 0 C dX6_put_79 rfl rfl rfl ?_
                refine cv_get (q := 83) C iX6_put_X6 0 rfl rfl 12 (by decide) (List.mem_of_getElem? (i := 5) rfl) rfl rfl dX6_put_80 rfl ?_
                refine cv_iload_n (i := 2) (q := 84) 2 C dX6_put_83 rfl rfl rfl ?_
                refine cv_iload_n (i := 1) (q := 85) 1 C dX6_put_84 rfl rfl rfl ?_
                obtain ⟨g27, hm⟩ := cv_gd_s hm
                obtain ⟨s28, es28, hm⟩ := cv_lt_s hm
                refine cv_iast (q := 86) (ws' := (wX6 q cy s28)) C 11 0 rfl rfl (vp_in_iff.mpr g27) dX6_put_85 rfl (by rw [es28]; rfl) ?_
                refine cv_aload_n (i := 0) (q := 87) 0 C dX6_put_86 rfl rfl rfl ?_
                refine cv_get (q := 90) C iX6_put_X6 0 rfl rfl 13 (by decide) (List.mem_of_getElem? (i := 6) rfl) rfl rfl dX6_put_87 rfl ?_
                refine cv_iload_n (i := 2) (q := 91) 2 C dX6_put_90 rfl rfl rfl ?_
                refine cv_iload_n (i := 3) (q := 92) 3 C dX6_put_91 rfl rfl rfl ?_
                obtain ⟨g29, hm⟩ := cv_gd_s hm
                obtain ⟨s30, es30, hm⟩ := cv_lt_s hm
                refine cv_iast (q := 93) (ws' := (wX6 q cy s30)) C 12 0 rfl rfl (vp_in_iff.mpr g29) dX6_put_92 rfl (by rw [es30]; rfl) ?_
                refine cv_iconst (v := 0) (q := 94) C dX6_put_93 (by decide) rfl ?_
                obtain rfl := Option.some.inj hm
                exact cv_iret C hr hk dX6_put_94
            · have hm := cv_if_t h21 hm
              refine cv_bipush (v := -103) (q := 68) C dX6_put_66 (by decide) rfl ?_
              obtain rfl := Option.some.inj hm
              exact cv_iret C hr hk dX6_put_68
      · have hm := cv_if_t h6 hm
        refine cv_bipush (v := -102) (q := 38) C dX6_put_36 (by decide) rfl ?_
        obtain rfl := Option.some.inj hm
        exact cv_iret C hr hk dX6_put_38
def fX6_take (S : SX6) (a1 : Int32) : Option (Int32 × SX6) :=
  cv_bd (fX6_isThere S a1) fun r1 =>
  if r1 = 0 then
    (
    some ((-101 : Int32), S)
    )
  else
    (
    cv_gd (0 ≤ (a1).toInt ∧ (a1).toInt < 100) <|
    if ((gX6_kinds S) (a1).toNatClampNeg) = (1 : Int32) then
      (
      some ((-103 : Int32), S)
      )
    else
      (
      cv_gd (0 ≤ (a1).toInt ∧ (a1).toInt < 100) <|
      if ((gX6_kinds S) (a1).toNatClampNeg) = (4 : Int32) then
        (
        some ((-103 : Int32), S)
        )
      else
        (
        cv_bd (fX6_takeOut S a1) fun r7 =>
        cv_gd (0 ≤ (a1).toInt ∧ (a1).toInt < 100) <|
        some (((gX6_values r7) (a1).toNatClampNeg), r7)
        )
      )
    )
abbrev rX6_take : Room := { frames := 6, cells := 0, slots := 0, locals := 136 }
theorem iX6_take_X6 : ∀ w ∈ u_ws RX6 TX6 50, w ∈ wsX6_take := fun w h => List.mem_cons_of_mem _ (List.mem_append_right _ h)
set_option maxHeartbeats 4000000 in
set_option maxRecDepth 100000 in
theorem KX6_take {l : Launch} {σ : Nat → Nat} {D : va_G} {cy : ClassId} (q : Nat → Nat) (S : SX6) (a1 : Int32) {res : Int32 × SX6} (hm : fX6_take S a1 = some res) : cv_M l yX6_take wsX6_take rX6_take σ D [(cy, .int)] [.ref (q 0), .int a1] (wX6 q cy S) (some (.int res.1)) (wX6 q cy res.2) := by
  unfold fX6_take at hm
  refine cv_M.of (own := RX6) (by decide +kernel) rfl rfl (lv := [(0, .ref (q 0)), (1, .int a1)]) rfl (Nat.le_of_ble_eq_true rfl) ?_
  intro p e s m args below meth c A C hr hk
  refine cv_aload_n (i := 0) (q := 1) 0 C dX6_take_0 rfl rfl rfl ?_
  refine cv_iload_n (i := 1) (q := 2) 1 C dX6_take_1 rfl rfl rfl ?_
  obtain ⟨r1, hr1, hm⟩ := cv_bd_s hm
  refine cv_goW (q := 5) C (KX6_isThere (l := l) (σ := σ) (D := D) (cy := cy)  q  S a1 hr1) (cv_rv (As := [.int a1]) (st := []) (n := 1) (q0 := 0) (ci := 6) C (KX6_isThere (l := l) (σ := σ) (D := D) (cy := cy)  q  S a1 hr1) rfl rfl gX6_take_X6_isThere rfl ⟨rfl, rfl⟩ (by decide +kernel) rfl ⟨Nat.le_of_ble_eq_true rfl, Nat.le_of_ble_eq_true rfl⟩ rfl (Nat.le_of_ble_eq_true rfl) dX6_take_2 ⟨Nat.zero_le _, Nat.zero_le _⟩) rfl ?_
  refine cv_if_ne (tgt := 11) (q := 8) C dX6_take_5 (by decide) rfl (fun h2 => ?_) (fun h2 => ?_)
  · have hm := cv_if_f h2 hm
    refine cv_aload_n (i := 0) (q := 12) 0 C dX6_take_11 rfl rfl rfl ?_
    refine cv_get (q := 15) C iX6_take_X6 0 rfl rfl 12 (by decide) (List.mem_of_getElem? (i := 1) rfl) rfl rfl dX6_take_12 rfl ?_
    refine cv_iload_n (i := 1) (q := 16) 1 C dX6_take_15 rfl rfl rfl ?_
    obtain ⟨g3, hm⟩ := cv_gd_s hm
    refine cv_iald (q := 17) C 11 0 rfl rfl (vp_in_iff.mpr g3) dX6_take_16 rfl ?_
    refine cv_iconst (v := 1) (q := 18) C dX6_take_17 (by decide) rfl ?_
    refine cv_icmp_eq (tgt := 31) (q := 21) C dX6_take_18 (by decide) rfl (fun h4 => ?_) (fun h4 => ?_)
    · have hm := cv_if_t h4 hm
      refine cv_bipush (v := -103) (q := 33) C dX6_take_31 (by decide) rfl ?_
      obtain rfl := Option.some.inj hm
      exact cv_iret C hr hk dX6_take_33
    · have hm := cv_if_f h4 hm
      refine cv_aload_n (i := 0) (q := 22) 0 C dX6_take_21 rfl rfl rfl ?_
      refine cv_get (q := 25) C iX6_take_X6 0 rfl rfl 12 (by decide) (List.mem_of_getElem? (i := 1) rfl) rfl rfl dX6_take_22 rfl ?_
      refine cv_iload_n (i := 1) (q := 26) 1 C dX6_take_25 rfl rfl rfl ?_
      obtain ⟨g5, hm⟩ := cv_gd_s hm
      refine cv_iald (q := 27) C 11 0 rfl rfl (vp_in_iff.mpr g5) dX6_take_26 rfl ?_
      refine cv_iconst (v := 4) (q := 28) C dX6_take_27 (by decide) rfl ?_
      refine cv_icmp_ne (tgt := 34) (q := 31) C dX6_take_28 (by decide) rfl (fun h6 => ?_) (fun h6 => ?_)
      · have hm := cv_if_f h6 hm
        refine cv_aload_n (i := 0) (q := 35) 0 C dX6_take_34 rfl rfl rfl ?_
        refine cv_iload_n (i := 1) (q := 36) 1 C dX6_take_35 rfl rfl rfl ?_
        obtain ⟨r7, hr7, hm⟩ := cv_bd_s hm
        refine cv_goW (q := 39) C (KX6_takeOut (l := l) (σ := σ) (D := D) (cy := cy)  q  S a1 hr7) (cv_rv (As := [.int a1]) (st := []) (n := 1) (q0 := 0) (ci := 6) C (KX6_takeOut (l := l) (σ := σ) (D := D) (cy := cy)  q  S a1 hr7) rfl rfl gX6_take_X6_takeOut rfl ⟨rfl, rfl⟩ (by decide +kernel) rfl ⟨Nat.le_of_ble_eq_true rfl, Nat.le_of_ble_eq_true rfl⟩ rfl (Nat.le_of_ble_eq_true rfl) dX6_take_36 ⟨Nat.zero_le _, Nat.zero_le _⟩) rfl ?_
        refine cv_aload_n (i := 0) (q := 40) 0 C dX6_take_39 rfl rfl rfl ?_
        refine cv_get (q := 43) C iX6_take_X6 0 rfl rfl 13 (by decide) (List.mem_of_getElem? (i := 2) rfl) rfl rfl dX6_take_40 rfl ?_
        refine cv_iload_n (i := 1) (q := 44) 1 C dX6_take_43 rfl rfl rfl ?_
        obtain ⟨g8, hm⟩ := cv_gd_s hm
        refine cv_iald (q := 45) C 12 0 rfl rfl (vp_in_iff.mpr g8) dX6_take_44 rfl ?_
        obtain rfl := Option.some.inj hm
        exact cv_iret C hr hk dX6_take_45
      · have hm := cv_if_t h6 hm
        refine cv_bipush (v := -103) (q := 33) C dX6_take_31 (by decide) rfl ?_
        obtain rfl := Option.some.inj hm
        exact cv_iret C hr hk dX6_take_33
  · have hm := cv_if_t h2 hm
    refine cv_bipush (v := -101) (q := 10) C dX6_take_8 (by decide) rfl ?_
    obtain rfl := Option.some.inj hm
    exact cv_iret C hr hk dX6_take_10
def fX6_tell (S : SX6) (a1 : Int32) : Option (Int32 × SX6) :=
  cv_bd (fX6_isThere S a1) fun r1 =>
  if r1 = 0 then
    (
    some ((-101 : Int32), S)
    )
  else
    (
    cv_gd (0 ≤ (a1).toInt ∧ (a1).toInt < 100) <|
    cv_lt (((gX6_values S) (a1).toNatClampNeg)) fun x4 =>
    cv_gd (0 ≤ (a1).toInt ∧ (a1).toInt < 100) <|
    cv_bd (
      if ((gX6_kinds S) (a1).toNatClampNeg) = (2 : Int32) then
        (
        if (999 : Int32) ≤ x4 then
          (
          some S
          )
        else
          (
          cv_gd (0 ≤ (a1).toInt ∧ (a1).toInt < 100) <|
          cv_gd (0 ≤ (a1).toInt ∧ (a1).toInt < 100) <|
          cv_lt (sX6_values S (upd (gX6_values S) (a1).toNatClampNeg (((gX6_values S) (a1).toNatClampNeg) + (1 : Int32)))) fun s15 =>
          some s15
          )
        )
      else
        (
        some S
        )
    ) fun j6 =>
    cv_gd (0 ≤ (a1).toInt ∧ (a1).toInt < 100) <|
    if ((gX6_kinds j6) (a1).toNatClampNeg) = (3 : Int32) then
      (
      cv_bd (fX6_takeOut j6 a1) fun r10 =>
      some (x4, r10)
      )
    else
      (
      some (x4, j6)
      )
    )
abbrev rX6_tell : Room := { frames := 6, cells := 0, slots := 0, locals := 136 }
theorem iX6_tell_X6 : ∀ w ∈ u_ws RX6 TX6 50, w ∈ wsX6_tell := fun w h => List.mem_cons_of_mem _ (List.mem_append_right _ h)
set_option maxHeartbeats 4000000 in
set_option maxRecDepth 100000 in
theorem KX6_tell {l : Launch} {σ : Nat → Nat} {D : va_G} {cy : ClassId} (q : Nat → Nat) (S : SX6) (a1 : Int32) {res : Int32 × SX6} (hm : fX6_tell S a1 = some res) : cv_M l yX6_tell wsX6_tell rX6_tell σ D [(cy, .int)] [.ref (q 0), .int a1] (wX6 q cy S) (some (.int res.1)) (wX6 q cy res.2) := by
  unfold fX6_tell at hm
  refine cv_M.of (own := RX6) (by decide +kernel) rfl rfl (lv := [(0, .ref (q 0)), (1, .int a1)]) rfl (Nat.le_of_ble_eq_true rfl) ?_
  intro p e s m args below meth c A C hr hk
  refine cv_aload_n (i := 0) (q := 1) 0 C dX6_tell_0 rfl rfl rfl ?_
  refine cv_iload_n (i := 1) (q := 2) 1 C dX6_tell_1 rfl rfl rfl ?_
  obtain ⟨r1, hr1, hm⟩ := cv_bd_s hm
  refine cv_goW (q := 5) C (KX6_isThere (l := l) (σ := σ) (D := D) (cy := cy)  q  S a1 hr1) (cv_rv (As := [.int a1]) (st := []) (n := 1) (q0 := 0) (ci := 6) C (KX6_isThere (l := l) (σ := σ) (D := D) (cy := cy)  q  S a1 hr1) rfl rfl gX6_tell_X6_isThere rfl ⟨rfl, rfl⟩ (by decide +kernel) rfl ⟨Nat.le_of_ble_eq_true rfl, Nat.le_of_ble_eq_true rfl⟩ rfl (Nat.le_of_ble_eq_true rfl) dX6_tell_2 ⟨Nat.zero_le _, Nat.zero_le _⟩) rfl ?_
  refine cv_if_ne (tgt := 11) (q := 8) C dX6_tell_5 (by decide) rfl (fun h2 => ?_) (fun h2 => ?_)
  · have hm := cv_if_f h2 hm
    refine cv_aload_n (i := 0) (q := 12) 0 C dX6_tell_11 rfl rfl rfl ?_
    refine cv_get (q := 15) C iX6_tell_X6 0 rfl rfl 13 (by decide) (List.mem_of_getElem? (i := 1) rfl) rfl rfl dX6_tell_12 rfl ?_
    refine cv_iload_n (i := 1) (q := 16) 1 C dX6_tell_15 rfl rfl rfl ?_
    obtain ⟨g3, hm⟩ := cv_gd_s hm
    refine cv_iald (q := 17) C 12 0 rfl rfl (vp_in_iff.mpr g3) dX6_tell_16 rfl ?_
    obtain ⟨x4, ex4, hm⟩ := cv_lt_s hm
    refine cv_topi ex4 ?_
    refine cv_istore_n (i := 2) (lv' := [(2, .int x4), (0, .ref (q 0)), (1, .int a1)]) (q := 18) C dX6_tell_17 rfl (by decide) rfl rfl ?_
    refine cv_aload_n (i := 0) (q := 19) 1 C dX6_tell_18 rfl rfl rfl ?_
    refine cv_get (q := 22) C iX6_tell_X6 0 rfl rfl 12 (by decide) (List.mem_of_getElem? (i := 2) rfl) rfl rfl dX6_tell_19 rfl ?_
    refine cv_iload_n (i := 1) (q := 23) 2 C dX6_tell_22 rfl rfl rfl ?_
    obtain ⟨g5, hm⟩ := cv_gd_s hm
    refine cv_iald (q := 24) C 11 0 rfl rfl (vp_in_iff.mpr g5) dX6_tell_23 rfl ?_
    refine cv_iconst (v := 2) (q := 25) C dX6_tell_24 (by decide) rfl ?_
    obtain ⟨j6, hj6, hm⟩ := cv_bd_s hm
    refine cv_cut (ws' := (wX6 q cy j6)) (pc' := 45) (lv' := [(0, .ref (q 0)), (1, .int a1), (2, .int x4)]) (st' := []) ?_ (fun K7 => ?_)
    · refine cv_aload_n (i := 0) (q := 46) 0 C dX6_tell_45 rfl rfl rfl ?_
      refine cv_get (q := 49) C iX6_tell_X6 0 rfl rfl 12 (by decide) (List.mem_of_getElem? (i := 2) rfl) rfl rfl dX6_tell_46 rfl ?_
      refine cv_iload_n (i := 1) (q := 50) 1 C dX6_tell_49 rfl rfl rfl ?_
      obtain ⟨g8, hm⟩ := cv_gd_s hm
      refine cv_iald (q := 51) C 11 0 rfl rfl (vp_in_iff.mpr g8) dX6_tell_50 rfl ?_
      refine cv_iconst (v := 3) (q := 52) C dX6_tell_51 (by decide) rfl ?_
      refine cv_icmp_ne (tgt := 60) (q := 55) C dX6_tell_52 (by decide) rfl (fun h9 => ?_) (fun h9 => ?_)
      · have hm := cv_if_f h9 hm
        refine cv_iload_n (i := 2) (q := 61) 2 C dX6_tell_60 rfl rfl rfl ?_
        obtain rfl := Option.some.inj hm
        exact cv_iret C hr hk dX6_tell_61
      · have hm := cv_if_t h9 hm
        refine cv_aload_n (i := 0) (q := 56) 0 C dX6_tell_55 rfl rfl rfl ?_
        refine cv_iload_n (i := 1) (q := 57) 1 C dX6_tell_56 rfl rfl rfl ?_
        obtain ⟨r10, hr10, hm⟩ := cv_bd_s hm
        refine cv_goW (q := 60) C (KX6_takeOut (l := l) (σ := σ) (D := D) (cy := cy)  q  j6 a1 hr10) (cv_rv (As := [.int a1]) (st := []) (n := 1) (q0 := 0) (ci := 6) C (KX6_takeOut (l := l) (σ := σ) (D := D) (cy := cy)  q  j6 a1 hr10) rfl rfl gX6_tell_X6_takeOut rfl ⟨rfl, rfl⟩ (by decide +kernel) rfl ⟨Nat.le_of_ble_eq_true rfl, Nat.le_of_ble_eq_true rfl⟩ rfl (Nat.le_of_ble_eq_true rfl) dX6_tell_57 ⟨Nat.zero_le _, Nat.zero_le _⟩) rfl ?_
        refine cv_iload_n (i := 2) (q := 61) 2 C dX6_tell_60 rfl rfl rfl ?_
        obtain rfl := Option.some.inj hm
        exact cv_iret C hr hk dX6_tell_61
    · have hm := hj6
      refine cv_icmp_ne (tgt := 45) (q := 28) C dX6_tell_25 (by decide) rfl (fun h11 => ?_) (fun h11 => ?_)
      · have hm := cv_if_f h11 hm
        obtain rfl := Option.some.inj hm
        refine cv_sub [1, 2, 0] rfl ?_
        exact K7
      · have hm := cv_if_t h11 hm
        refine cv_iload_n (i := 2) (q := 29) 0 C dX6_tell_28 rfl rfl rfl ?_
        refine cv_sipush (v := 999) (q := 32) C dX6_tell_29 (by decide) rfl ?_
        refine cv_icmp_ge (tgt := 45) (q := 35) C dX6_tell_32 (by decide) rfl (fun h12 => ?_) (fun h12 => ?_)
        · have hm := cv_if_t h12 hm
          obtain rfl := Option.some.inj hm
          refine cv_sub [1, 2, 0] rfl ?_
          exact K7
        · have hm := cv_if_f h12 hm
          refine cv_aload_n (i := 0) (q := 36) 1 C dX6_tell_35 rfl rfl rfl ?_
          refine cv_get (q := 39) C iX6_tell_X6 0 rfl rfl 13 (by decide) (List.mem_of_getElem? (i := 1) rfl) rfl rfl dX6_tell_36 rfl ?_
          refine cv_iload_n (i := 1) (q := 40) 2 C dX6_tell_39 rfl rfl rfl ?_
          refine cv_dup2 (q := 41) C dX6_tell_40 rfl rfl rfl ?_
          obtain ⟨g13, hm⟩ := cv_gd_s hm
          refine cv_iald (q := 42) C 12 0 rfl rfl (vp_in_iff.mpr g13) dX6_tell_41 rfl ?_
          refine cv_iconst (v := 1) (q := 43) C dX6_tell_42 (by decide) rfl ?_
          refine cv_iadd (q := 44) C dX6_tell_43 rfl ?_
          obtain ⟨g14, hm⟩ := cv_gd_s hm
          obtain ⟨s15, es15, hm⟩ := cv_lt_s hm
          refine cv_iast (q := 45) (ws' := (wX6 q cy s15)) C 12 0 rfl rfl (vp_in_iff.mpr g14) dX6_tell_44 rfl (by rw [es15]; rfl) ?_
          obtain rfl := Option.some.inj hm
          refine cv_sub [1, 2, 0] rfl ?_
          exact K7
  · have hm := cv_if_t h2 hm
    refine cv_bipush (v := -101) (q := 10) C dX6_tell_8 (by decide) rfl ?_
    obtain rfl := Option.some.inj hm
    exact cv_iret C hr hk dX6_tell_10
def fX6_flatten (S : SX6) : Option (Int32 × SX6) :=
  cv_bd (fX6_lacks S) fun r1 =>
  if r1 = 0 then
    (
    cv_gd (0 ≤ ((0 : Int32)).toInt ∧ ((0 : Int32)).toInt < 2) <|
    cv_bd (
      if ((gX6_many S) ((0 : Int32)).toNatClampNeg) ≤ 0 then
        (
        some S
        )
      else
        (
        cv_gd (0 ≤ ((0 : Int32)).toInt ∧ ((0 : Int32)).toInt < 2) <|
        cv_bd (fX6_build S (0 : Int32) ((gX6_root S) ((0 : Int32)).toNatClampNeg)) fun r9 =>
        some r9
        )
    ) fun j4 =>
    cv_gd (0 ≤ ((0 : Int32)).toInt ∧ ((0 : Int32)).toInt < 2) <|
    some (((gX6_many j4) ((0 : Int32)).toNatClampNeg), j4)
    )
  else
    (
    some ((-103 : Int32), S)
    )
abbrev rX6_flatten : Room := { frames := 3, cells := 0, slots := 0, locals := 78 }
theorem iX6_flatten_X6 : ∀ w ∈ u_ws RX6 TX6 50, w ∈ wsX6_flatten := fun w h => List.mem_cons_of_mem _ (List.mem_append_right _ h)
set_option maxHeartbeats 4000000 in
set_option maxRecDepth 100000 in
theorem KX6_flatten {l : Launch} {σ : Nat → Nat} {D : va_G} {cy : ClassId} (q : Nat → Nat) (S : SX6) {res : Int32 × SX6} (hm : fX6_flatten S = some res) : cv_M l yX6_flatten wsX6_flatten rX6_flatten σ D [(cy, .int)] [.ref (q 0)] (wX6 q cy S) (some (.int res.1)) (wX6 q cy res.2) := by
  unfold fX6_flatten at hm
  refine cv_M.of (own := RX6) (by decide +kernel) rfl rfl (lv := [(0, .ref (q 0))]) rfl (Nat.le_of_ble_eq_true rfl) ?_
  intro p e s m args below meth c A C hr hk
  refine cv_aload_n (i := 0) (q := 1) 0 C dX6_flatten_0 rfl rfl rfl ?_
  obtain ⟨r1, hr1, hm⟩ := cv_bd_s hm
  refine cv_goW (q := 4) C (KX6_lacks (l := l) (σ := σ) (D := D) (cy := cy)  q  S  hr1) (cv_rv (As := []) (st := []) (n := 0) (q0 := 0) (ci := 6) C (KX6_lacks (l := l) (σ := σ) (D := D) (cy := cy)  q  S  hr1) rfl rfl gX6_flatten_X6_lacks rfl ⟨rfl, rfl⟩ (by decide +kernel) rfl ⟨Nat.le_of_ble_eq_true rfl, Nat.le_of_ble_eq_true rfl⟩ rfl (Nat.le_of_ble_eq_true rfl) dX6_flatten_1 ⟨Nat.zero_le _, Nat.zero_le _⟩) rfl ?_
  refine cv_if_eq (tgt := 10) (q := 7) C dX6_flatten_4 (by decide) rfl (fun h2 => ?_) (fun h2 => ?_)
  · have hm := cv_if_t h2 hm
    refine cv_aload_n (i := 0) (q := 11) 0 C dX6_flatten_10 rfl rfl rfl ?_
    refine cv_get (q := 14) C iX6_flatten_X6 0 rfl rfl 7 (by decide) (List.mem_of_getElem? (i := 1) rfl) rfl rfl dX6_flatten_11 rfl ?_
    refine cv_iconst (v := 0) (q := 15) C dX6_flatten_14 (by decide) rfl ?_
    obtain ⟨g3, hm⟩ := cv_gd_s hm
    refine cv_iald (q := 16) C 7 0 rfl rfl (vp_in_iff.mpr g3) dX6_flatten_15 rfl ?_
    obtain ⟨j4, hj4, hm⟩ := cv_bd_s hm
    refine cv_cut (ws' := (wX6 q cy j4)) (pc' := 30) (lv' := [(0, .ref (q 0))]) (st' := []) ?_ (fun K5 => ?_)
    · refine cv_aload_n (i := 0) (q := 31) 0 C dX6_flatten_30 rfl rfl rfl ?_
      refine cv_get (q := 34) C iX6_flatten_X6 0 rfl rfl 7 (by decide) (List.mem_of_getElem? (i := 1) rfl) rfl rfl dX6_flatten_31 rfl ?_
      refine cv_iconst (v := 0) (q := 35) C dX6_flatten_34 (by decide) rfl ?_
      obtain ⟨g6, hm⟩ := cv_gd_s hm
      refine cv_iald (q := 36) C 7 0 rfl rfl (vp_in_iff.mpr g6) dX6_flatten_35 rfl ?_
      obtain rfl := Option.some.inj hm
      exact cv_iret C hr hk dX6_flatten_36
    · have hm := hj4
      refine cv_if_le (tgt := 30) (q := 19) C dX6_flatten_16 (by decide) rfl (fun h7 => ?_) (fun h7 => ?_)
      · have hm := cv_if_t h7 hm
        obtain rfl := Option.some.inj hm
        exact K5
      · have hm := cv_if_f h7 hm
        refine cv_aload_n (i := 0) (q := 20) 0 C dX6_flatten_19 rfl rfl rfl ?_
        refine cv_iconst (v := 0) (q := 21) C dX6_flatten_20 (by decide) rfl ?_
        refine cv_aload_n (i := 0) (q := 22) 0 C dX6_flatten_21 rfl rfl rfl ?_
        refine cv_get (q := 25) C iX6_flatten_X6 0 rfl rfl 6 (by decide) (List.mem_of_getElem? (i := 2) rfl) rfl rfl dX6_flatten_22 rfl ?_
        refine cv_iconst (v := 0) (q := 26) C dX6_flatten_25 (by decide) rfl ?_
        obtain ⟨g8, hm⟩ := cv_gd_s hm
        refine cv_iald (q := 27) C 6 0 rfl rfl (vp_in_iff.mpr g8) dX6_flatten_26 rfl ?_
        obtain ⟨r9, hr9, hm⟩ := cv_bd_s hm
        refine cv_goW (q := 30) C (KX6_build (l := l) (σ := σ) (D := D) (cy := cy)  q  S (0 : Int32) ((gX6_root S) ((0 : Int32)).toNatClampNeg) hr9) (cv_rv (As := [.int (0 : Int32), .int ((gX6_root S) ((0 : Int32)).toNatClampNeg)]) (st := []) (n := 2) (q0 := 0) (ci := 6) C (KX6_build (l := l) (σ := σ) (D := D) (cy := cy)  q  S (0 : Int32) ((gX6_root S) ((0 : Int32)).toNatClampNeg) hr9) rfl rfl gX6_flatten_X6_build rfl ⟨rfl, rfl⟩ (by decide +kernel) rfl ⟨Nat.le_of_ble_eq_true rfl, Nat.le_of_ble_eq_true rfl⟩ rfl (Nat.le_of_ble_eq_true rfl) dX6_flatten_27 ⟨Nat.zero_le _, Nat.zero_le _⟩) rfl ?_
        obtain rfl := Option.some.inj hm
        exact K5
  · have hm := cv_if_f h2 hm
    refine cv_bipush (v := -103) (q := 9) C dX6_flatten_7 (by decide) rfl ?_
    obtain rfl := Option.some.inj hm
    exact cv_iret C hr hk dX6_flatten_9
def fX6_ledgerOf (S : SX6) (a1 : Int32) : Option (Int32) :=
  if a1 = 0 then
    (
    cv_bd (fX6_tall S (0 : Int32)) fun r2 =>
    some r2
    )
  else
    (
    if a1 = 1 then
      (
      cv_gd (0 ≤ ((0 : Int32)).toInt ∧ ((0 : Int32)).toInt < 2) <|
      cv_bd (fX6_limit S (0 : Int32) ((gX6_many S) ((0 : Int32)).toNatClampNeg)) fun r5 =>
      some r5
      )
    else
      (
      if a1 = 2 then
        (
        cv_gd (0 ≤ ((0 : Int32)).toInt ∧ ((0 : Int32)).toInt < 2) <|
        some ((gX6_most S) ((0 : Int32)).toNatClampNeg)
        )
      else
        (
        if a1 = 3 then
          (
          some ((100000 : Int32) + (gX6_credit S))
          )
        else
          (
          if a1 = 4 then
            (
            some ((100000 : Int32) + (gX6_lowest S))
            )
          else
            (
            if a1 = 5 then
              (
              cv_gd (0 ≤ ((0 : Int32)).toInt ∧ ((0 : Int32)).toInt < 2) <|
              some ((gX6_built S) ((0 : Int32)).toNatClampNeg)
              )
            else
              (
              cv_gd (0 ≤ ((0 : Int32)).toInt ∧ ((0 : Int32)).toInt < 2) <|
              some ((gX6_cost S) ((0 : Int32)).toNatClampNeg)
              )
            )
          )
        )
      )
    )
abbrev rX6_ledgerOf : Room := { frames := 2, cells := 0, slots := 0, locals := 48 }
theorem iX6_ledgerOf_X6 : ∀ w ∈ u_ws RX6 TX6 50, w ∈ wsX6_ledgerOf := fun w h => List.mem_cons_of_mem _ (List.mem_append_right _ h)
set_option maxHeartbeats 4000000 in
set_option maxRecDepth 100000 in
theorem KX6_ledgerOf {l : Launch} {σ : Nat → Nat} {D : va_G} {cy : ClassId} (q : Nat → Nat) (S : SX6) (a1 : Int32) {res : Int32} (hm : fX6_ledgerOf S a1 = some res) : cv_M l yX6_ledgerOf wsX6_ledgerOf rX6_ledgerOf σ D [(cy, .int)] [.ref (q 0), .int a1] (wX6 q cy S) (some (.int res)) (wX6 q cy S) := by
  unfold fX6_ledgerOf at hm
  refine cv_M.of (own := RX6) (by decide +kernel) rfl rfl (lv := [(0, .ref (q 0)), (1, .int a1)]) rfl (Nat.le_of_ble_eq_true rfl) ?_
  intro p e s m args below meth c A C hr hk
  refine cv_iload_n (i := 1) (q := 1) 1 C dX6_ledgerOf_0 rfl rfl rfl ?_
  by_cases h1 : a1 = 0
  · have hm := cv_if_t h1 hm
    refine cv_tin (tgt := 40) 0 C dX6_ledgerOf_1 h1 (by decide) (by decide) rfl (by decide) ?_
    refine cv_aload_n (i := 0) (q := 41) 0 C dX6_ledgerOf_40 rfl rfl rfl ?_
    refine cv_iconst (v := 0) (q := 42) C dX6_ledgerOf_41 (by decide) rfl ?_
    obtain ⟨r2, hr2, hm⟩ := cv_bd_s hm
    refine cv_goW (q := 45) C (KX6_tall (l := l) (σ := σ) (D := D) (cy := cy)  q  S (0 : Int32) hr2) (cv_rv (As := [.int (0 : Int32)]) (st := []) (n := 1) (q0 := 0) (ci := 6) C (KX6_tall (l := l) (σ := σ) (D := D) (cy := cy)  q  S (0 : Int32) hr2) rfl rfl gX6_ledgerOf_X6_tall rfl ⟨rfl, rfl⟩ (by decide +kernel) rfl ⟨Nat.le_of_ble_eq_true rfl, Nat.le_of_ble_eq_true rfl⟩ rfl (Nat.le_of_ble_eq_true rfl) dX6_ledgerOf_42 ⟨Nat.zero_le _, Nat.zero_le _⟩) rfl ?_
    obtain rfl := Option.some.inj hm
    exact cv_iret C hr hk dX6_ledgerOf_45
  · have hm := cv_if_f h1 hm
    by_cases h3 : a1 = 1
    · have hm := cv_if_t h3 hm
      refine cv_tin (tgt := 46) 1 C dX6_ledgerOf_1 h3 (by decide) (by decide) rfl (by decide) ?_
      refine cv_aload_n (i := 0) (q := 47) 0 C dX6_ledgerOf_46 rfl rfl rfl ?_
      refine cv_iconst (v := 0) (q := 48) C dX6_ledgerOf_47 (by decide) rfl ?_
      refine cv_aload_n (i := 0) (q := 49) 0 C dX6_ledgerOf_48 rfl rfl rfl ?_
      refine cv_get (q := 52) C iX6_ledgerOf_X6 0 rfl rfl 7 (by decide) (List.mem_of_getElem? (i := 1) rfl) rfl rfl dX6_ledgerOf_49 rfl ?_
      refine cv_iconst (v := 0) (q := 53) C dX6_ledgerOf_52 (by decide) rfl ?_
      obtain ⟨g4, hm⟩ := cv_gd_s hm
      refine cv_iald (q := 54) C 7 0 rfl rfl (vp_in_iff.mpr g4) dX6_ledgerOf_53 rfl ?_
      obtain ⟨r5, hr5, hm⟩ := cv_bd_s hm
      refine cv_goW (q := 57) C (KX6_limit (l := l) (σ := σ) (D := D) (cy := cy)  q  S (0 : Int32) ((gX6_many S) ((0 : Int32)).toNatClampNeg) hr5) (cv_rv (As := [.int (0 : Int32), .int ((gX6_many S) ((0 : Int32)).toNatClampNeg)]) (st := []) (n := 2) (q0 := 0) (ci := 6) C (KX6_limit (l := l) (σ := σ) (D := D) (cy := cy)  q  S (0 : Int32) ((gX6_many S) ((0 : Int32)).toNatClampNeg) hr5) rfl rfl gX6_ledgerOf_X6_limit rfl ⟨rfl, rfl⟩ (by decide +kernel) rfl ⟨Nat.le_of_ble_eq_true rfl, Nat.le_of_ble_eq_true rfl⟩ rfl (Nat.le_of_ble_eq_true rfl) dX6_ledgerOf_54 ⟨Nat.zero_le _, Nat.zero_le _⟩) rfl ?_
      obtain rfl := Option.some.inj hm
      exact cv_iret C hr hk dX6_ledgerOf_57
    · have hm := cv_if_f h3 hm
      by_cases h6 : a1 = 2
      · have hm := cv_if_t h6 hm
        refine cv_tin (tgt := 58) 2 C dX6_ledgerOf_1 h6 (by decide) (by decide) rfl (by decide) ?_
        refine cv_aload_n (i := 0) (q := 59) 0 C dX6_ledgerOf_58 rfl rfl rfl ?_
        refine cv_get (q := 62) C iX6_ledgerOf_X6 0 rfl rfl 8 (by decide) (List.mem_of_getElem? (i := 2) rfl) rfl rfl dX6_ledgerOf_59 rfl ?_
        refine cv_iconst (v := 0) (q := 63) C dX6_ledgerOf_62 (by decide) rfl ?_
        obtain ⟨g7, hm⟩ := cv_gd_s hm
        refine cv_iald (q := 64) C 8 0 rfl rfl (vp_in_iff.mpr g7) dX6_ledgerOf_63 rfl ?_
        obtain rfl := Option.some.inj hm
        exact cv_iret C hr hk dX6_ledgerOf_64
      · have hm := cv_if_f h6 hm
        by_cases h8 : a1 = 3
        · have hm := cv_if_t h8 hm
          refine cv_tin (tgt := 65) 3 C dX6_ledgerOf_1 h8 (by decide) (by decide) rfl (by decide) ?_
          refine cv_ldc_w (v := 100000) (q := 68) C dX6_ledgerOf_65 (List.mem_of_getElem? (i := 3) rfl) rfl ?_
          refine cv_aload_n (i := 0) (q := 69) 0 C dX6_ledgerOf_68 rfl rfl rfl ?_
          refine cv_get (q := 72) C iX6_ledgerOf_X6 0 rfl rfl 19 (by decide) (List.mem_of_getElem? (i := 4) rfl) rfl rfl dX6_ledgerOf_69 rfl ?_
          refine cv_iadd (q := 73) C dX6_ledgerOf_72 rfl ?_
          obtain rfl := Option.some.inj hm
          exact cv_iret C hr hk dX6_ledgerOf_73
        · have hm := cv_if_f h8 hm
          by_cases h9 : a1 = 4
          · have hm := cv_if_t h9 hm
            refine cv_tin (tgt := 74) 4 C dX6_ledgerOf_1 h9 (by decide) (by decide) rfl (by decide) ?_
            refine cv_ldc_w (v := 100000) (q := 77) C dX6_ledgerOf_74 (List.mem_of_getElem? (i := 3) rfl) rfl ?_
            refine cv_aload_n (i := 0) (q := 78) 0 C dX6_ledgerOf_77 rfl rfl rfl ?_
            refine cv_get (q := 81) C iX6_ledgerOf_X6 0 rfl rfl 20 (by decide) (List.mem_of_getElem? (i := 5) rfl) rfl rfl dX6_ledgerOf_78 rfl ?_
            refine cv_iadd (q := 82) C dX6_ledgerOf_81 rfl ?_
            obtain rfl := Option.some.inj hm
            exact cv_iret C hr hk dX6_ledgerOf_82
          · have hm := cv_if_f h9 hm
            by_cases h10 : a1 = 5
            · have hm := cv_if_t h10 hm
              refine cv_tin (tgt := 83) 5 C dX6_ledgerOf_1 h10 (by decide) (by decide) rfl (by decide) ?_
              refine cv_aload_n (i := 0) (q := 84) 0 C dX6_ledgerOf_83 rfl rfl rfl ?_
              refine cv_get (q := 87) C iX6_ledgerOf_X6 0 rfl rfl 10 (by decide) (List.mem_of_getElem? (i := 6) rfl) rfl rfl dX6_ledgerOf_84 rfl ?_
              refine cv_iconst (v := 0) (q := 88) C dX6_ledgerOf_87 (by decide) rfl ?_
              obtain ⟨g11, hm⟩ := cv_gd_s hm
              refine cv_iald (q := 89) C 9 0 rfl rfl (vp_in_iff.mpr g11) dX6_ledgerOf_88 rfl ?_
              obtain rfl := Option.some.inj hm
              exact cv_iret C hr hk dX6_ledgerOf_89
            · have hm := cv_if_f h10 hm
              refine cv_tout (tgt := 90) C dX6_ledgerOf_1 (by have h1t := lv_neT (a := 0) h1 (by decide); have h3t := lv_neT (a := 1) h3 (by decide); have h6t := lv_neT (a := 2) h6 (by decide); have h8t := lv_neT (a := 3) h8 (by decide); have h9t := lv_neT (a := 4) h9 (by decide); have h10t := lv_neT (a := 5) h10 (by decide); omega) (by decide) ?_
              refine cv_aload_n (i := 0) (q := 91) 0 C dX6_ledgerOf_90 rfl rfl rfl ?_
              refine cv_get (q := 94) C iX6_ledgerOf_X6 0 rfl rfl 11 (by decide) (List.mem_of_getElem? (i := 7) rfl) rfl rfl dX6_ledgerOf_91 rfl ?_
              refine cv_iconst (v := 0) (q := 95) C dX6_ledgerOf_94 (by decide) rfl ?_
              obtain ⟨g12, hm⟩ := cv_gd_s hm
              refine cv_iald (q := 96) C 10 0 rfl rfl (vp_in_iff.mpr g12) dX6_ledgerOf_95 rfl ?_
              obtain rfl := Option.some.inj hm
              exact cv_iret C hr hk dX6_ledgerOf_96
def fX6_ledger (S : SX6) (a1 : Int32) : Option (Int32) :=
  cv_bd (fX6_in ((a1).toInt64) (0 : Int64) (6 : Int64)) fun r1 =>
  if r1 = 0 then
    (
    some (-102 : Int32)
    )
  else
    (
    cv_bd (fX6_lacks S) fun r3 =>
    if r3 = 0 then
      (
      cv_bd (fX6_ledgerOf S a1) fun r5 =>
      some r5
      )
    else
      (
      some (-103 : Int32)
      )
    )
abbrev rX6_ledger : Room := { frames := 3, cells := 0, slots := 0, locals := 69 }
set_option maxHeartbeats 4000000 in
set_option maxRecDepth 100000 in
theorem KX6_ledger {l : Launch} {σ : Nat → Nat} {D : va_G} {cy : ClassId} (q : Nat → Nat) (S : SX6) (a1 : Int32) {res : Int32} (hm : fX6_ledger S a1 = some res) : cv_M l yX6_ledger wsX6_ledger rX6_ledger σ D [(cy, .int)] [.ref (q 0), .int a1] (wX6 q cy S) (some (.int res)) (wX6 q cy S) := by
  unfold fX6_ledger at hm
  refine cv_M.of (own := RX6) (by decide +kernel) rfl rfl (lv := [(0, .ref (q 0)), (1, .int a1)]) rfl (Nat.le_of_ble_eq_true rfl) ?_
  intro p e s m args below meth c A C hr hk
  refine cv_iload_n (i := 1) (q := 1) 1 C dX6_ledger_0 rfl rfl rfl ?_
  refine cv_i2l (q := 2) C dX6_ledger_1 rfl ?_
  refine cv_lconst (v := 0) (q := 3) C dX6_ledger_2 (by decide) rfl ?_
  refine cv_ldc2 (v := 6) (q := 6) C dX6_ledger_3 (List.mem_of_getElem? (i := 1) rfl) rfl ?_
  obtain ⟨r1, hr1, hm⟩ := cv_bd_s hm
  refine cv_goE (q := 9) C (KX6_in (l := l) (σ := σ) (D := D) (cy := cy)     ((a1).toInt64) (0 : Int64) (6 : Int64) hr1) (cv_rs (As := [.long (a1).toInt64, .long (0 : Int64), .long (6 : Int64)]) (st := []) (n := 3) C (KX6_in (l := l) (σ := σ) (D := D) (cy := cy)     ((a1).toInt64) (0 : Int64) (6 : Int64) hr1) gX6_ledger_X6_in rfl ⟨rfl, rfl⟩ (by decide +kernel) rfl ⟨Nat.le_of_ble_eq_true rfl, Nat.le_of_ble_eq_true rfl⟩ rfl (Nat.le_of_ble_eq_true rfl) dX6_ledger_6 ⟨Nat.zero_le _, Nat.zero_le _⟩) rfl ?_
  refine cv_if_ne (tgt := 15) (q := 12) C dX6_ledger_9 (by decide) rfl (fun h2 => ?_) (fun h2 => ?_)
  · have hm := cv_if_f h2 hm
    refine cv_aload_n (i := 0) (q := 16) 0 C dX6_ledger_15 rfl rfl rfl ?_
    obtain ⟨r3, hr3, hm⟩ := cv_bd_s hm
    refine cv_goW (q := 19) C (KX6_lacks (l := l) (σ := σ) (D := D) (cy := cy)  q  S  hr3) (cv_rv (As := []) (st := []) (n := 0) (q0 := 0) (ci := 6) C (KX6_lacks (l := l) (σ := σ) (D := D) (cy := cy)  q  S  hr3) rfl rfl gX6_ledger_X6_lacks rfl ⟨rfl, rfl⟩ (by decide +kernel) rfl ⟨Nat.le_of_ble_eq_true rfl, Nat.le_of_ble_eq_true rfl⟩ rfl (Nat.le_of_ble_eq_true rfl) dX6_ledger_16 ⟨Nat.zero_le _, Nat.zero_le _⟩) rfl ?_
    refine cv_if_eq (tgt := 27) (q := 22) C dX6_ledger_19 (by decide) rfl (fun h4 => ?_) (fun h4 => ?_)
    · have hm := cv_if_t h4 hm
      refine cv_aload_n (i := 0) (q := 28) 0 C dX6_ledger_27 rfl rfl rfl ?_
      refine cv_iload_n (i := 1) (q := 29) 1 C dX6_ledger_28 rfl rfl rfl ?_
      obtain ⟨r5, hr5, hm⟩ := cv_bd_s hm
      refine cv_goW (q := 32) C (KX6_ledgerOf (l := l) (σ := σ) (D := D) (cy := cy)  q  S a1 hr5) (cv_rv (As := [.int a1]) (st := []) (n := 1) (q0 := 0) (ci := 6) C (KX6_ledgerOf (l := l) (σ := σ) (D := D) (cy := cy)  q  S a1 hr5) rfl rfl gX6_ledger_X6_ledgerOf rfl ⟨rfl, rfl⟩ (by decide +kernel) rfl ⟨Nat.le_of_ble_eq_true rfl, Nat.le_of_ble_eq_true rfl⟩ rfl (Nat.le_of_ble_eq_true rfl) dX6_ledger_29 ⟨Nat.zero_le _, Nat.zero_le _⟩) rfl ?_
      obtain rfl := Option.some.inj hm
      exact cv_iret C hr hk dX6_ledger_32
    · have hm := cv_if_f h4 hm
      refine cv_bipush (v := -103) (q := 24) C dX6_ledger_22 (by decide) rfl ?_
      refine cv_goto (tgt := 32) C dX6_ledger_24 (by decide) ?_
      obtain rfl := Option.some.inj hm
      exact cv_iret C hr hk dX6_ledger_32
  · have hm := cv_if_t h2 hm
    refine cv_bipush (v := -102) (q := 14) C dX6_ledger_12 (by decide) rfl ?_
    obtain rfl := Option.some.inj hm
    exact cv_iret C hr hk dX6_ledger_14
def fX6_wouldOf (S : SX6) (a1 : Int32) : Option (Int32 × SX6) :=
  cv_gd (0 ≤ (a1).toInt ∧ (a1).toInt < 200) <|
  if ((gX6_there S) (a1).toNatClampNeg) = (1 : Int32) then
    (
    some ((-1 : Int32), S)
    )
  else
    (
    cv_bd (fX6_begin S) fun r3 =>
    cv_bd (fX6_enter r3 (1 : Int32) a1) fun r4 =>
    some ((gX6_builtNow r4), r4)
    )
abbrev rX6_wouldOf : Room := { frames := 4, cells := 0, slots := 0, locals := 102 }
theorem iX6_wouldOf_X6 : ∀ w ∈ u_ws RX6 TX6 50, w ∈ wsX6_wouldOf := fun w h => List.mem_cons_of_mem _ (List.mem_append_right _ h)
set_option maxHeartbeats 4000000 in
set_option maxRecDepth 100000 in
theorem KX6_wouldOf {l : Launch} {σ : Nat → Nat} {D : va_G} {cy : ClassId} (q : Nat → Nat) (S : SX6) (a1 : Int32) {res : Int32 × SX6} (hm : fX6_wouldOf S a1 = some res) : cv_M l yX6_wouldOf wsX6_wouldOf rX6_wouldOf σ D [(cy, .int)] [.ref (q 0), .int a1] (wX6 q cy S) (some (.int res.1)) (wX6 q cy res.2) := by
  unfold fX6_wouldOf at hm
  refine cv_M.of (own := RX6) (by decide +kernel) rfl rfl (lv := [(0, .ref (q 0)), (1, .int a1)]) rfl (Nat.le_of_ble_eq_true rfl) ?_
  intro p e s m args below meth c A C hr hk
  refine cv_aload_n (i := 0) (q := 1) 0 C dX6_wouldOf_0 rfl rfl rfl ?_
  refine cv_get (q := 4) C iX6_wouldOf_X6 0 rfl rfl 5 (by decide) (List.mem_of_getElem? (i := 1) rfl) rfl rfl dX6_wouldOf_1 rfl ?_
  refine cv_iload_n (i := 1) (q := 5) 1 C dX6_wouldOf_4 rfl rfl rfl ?_
  obtain ⟨g1, hm⟩ := cv_gd_s hm
  refine cv_iald (q := 6) C 5 0 rfl rfl (vp_in_iff.mpr g1) dX6_wouldOf_5 rfl ?_
  refine cv_iconst (v := 1) (q := 7) C dX6_wouldOf_6 (by decide) rfl ?_
  refine cv_icmp_ne (tgt := 12) (q := 10) C dX6_wouldOf_7 (by decide) rfl (fun h2 => ?_) (fun h2 => ?_)
  · have hm := cv_if_f h2 hm
    refine cv_aload_n (i := 0) (q := 13) 0 C dX6_wouldOf_12 rfl rfl rfl ?_
    obtain ⟨r3, hr3, hm⟩ := cv_bd_s hm
    refine cv_goW (q := 16) C (KX6_begin (l := l) (σ := σ) (D := D) (cy := cy)  q  S  hr3) (cv_rv (As := []) (st := []) (n := 0) (q0 := 0) (ci := 6) C (KX6_begin (l := l) (σ := σ) (D := D) (cy := cy)  q  S  hr3) rfl rfl gX6_wouldOf_X6_begin rfl ⟨rfl, rfl⟩ (by decide +kernel) rfl ⟨Nat.le_of_ble_eq_true rfl, Nat.le_of_ble_eq_true rfl⟩ rfl (Nat.le_of_ble_eq_true rfl) dX6_wouldOf_13 ⟨Nat.zero_le _, Nat.zero_le _⟩) rfl ?_
    refine cv_aload_n (i := 0) (q := 17) 0 C dX6_wouldOf_16 rfl rfl rfl ?_
    refine cv_iconst (v := 1) (q := 18) C dX6_wouldOf_17 (by decide) rfl ?_
    refine cv_iload_n (i := 1) (q := 19) 1 C dX6_wouldOf_18 rfl rfl rfl ?_
    obtain ⟨r4, hr4, hm⟩ := cv_bd_s hm
    refine cv_goW (q := 22) C (KX6_enter (l := l) (σ := σ) (D := D) (cy := cy)  q  r3 (1 : Int32) a1 hr4) (cv_rv (As := [.int (1 : Int32), .int a1]) (st := []) (n := 2) (q0 := 0) (ci := 6) C (KX6_enter (l := l) (σ := σ) (D := D) (cy := cy)  q  r3 (1 : Int32) a1 hr4) rfl rfl gX6_wouldOf_X6_enter rfl ⟨rfl, rfl⟩ (by decide +kernel) rfl ⟨Nat.le_of_ble_eq_true rfl, Nat.le_of_ble_eq_true rfl⟩ rfl (Nat.le_of_ble_eq_true rfl) dX6_wouldOf_19 ⟨Nat.zero_le _, Nat.zero_le _⟩) rfl ?_
    refine cv_aload_n (i := 0) (q := 23) 0 C dX6_wouldOf_22 rfl rfl rfl ?_
    refine cv_get (q := 26) C iX6_wouldOf_X6 0 rfl rfl 9 (by decide) (List.mem_of_getElem? (i := 2) rfl) rfl rfl dX6_wouldOf_23 rfl ?_
    obtain rfl := Option.some.inj hm
    exact cv_iret C hr hk dX6_wouldOf_26
  · have hm := cv_if_t h2 hm
    refine cv_iconst (v := -1) (q := 11) C dX6_wouldOf_10 (by decide) rfl ?_
    obtain rfl := Option.some.inj hm
    exact cv_iret C hr hk dX6_wouldOf_11
def fX6_would (S : SX6) (a1 : Int32) : Option (Int32 × SX6) :=
  cv_bd (fX6_in ((a1).toInt64) (0 : Int64) (99 : Int64)) fun r1 =>
  if r1 = 0 then
    (
    some ((-102 : Int32), S)
    )
  else
    (
    cv_bd (fX6_lacks S) fun r3 =>
    if r3 = 0 then
      (
      cv_gd (0 ≤ ((0 : Int32)).toInt ∧ ((0 : Int32)).toInt < 2) <|
      if ((gX6_many S) ((0 : Int32)).toNatClampNeg) = (40 : Int32) then
        (
        some ((-103 : Int32), S)
        )
      else
        (
        cv_bd (fX6_wouldOf S a1) fun r7 =>
        some (r7.1, r7.2)
        )
      )
    else
      (
      some ((-103 : Int32), S)
      )
    )
abbrev rX6_would : Room := { frames := 5, cells := 0, slots := 0, locals := 123 }
theorem iX6_would_X6 : ∀ w ∈ u_ws RX6 TX6 50, w ∈ wsX6_would := fun w h => List.mem_cons_of_mem _ (List.mem_append_right _ h)
set_option maxHeartbeats 4000000 in
set_option maxRecDepth 100000 in
theorem KX6_would {l : Launch} {σ : Nat → Nat} {D : va_G} {cy : ClassId} (q : Nat → Nat) (S : SX6) (a1 : Int32) {res : Int32 × SX6} (hm : fX6_would S a1 = some res) : cv_M l yX6_would wsX6_would rX6_would σ D [(cy, .int)] [.ref (q 0), .int a1] (wX6 q cy S) (some (.int res.1)) (wX6 q cy res.2) := by
  unfold fX6_would at hm
  refine cv_M.of (own := RX6) (by decide +kernel) rfl rfl (lv := [(0, .ref (q 0)), (1, .int a1)]) rfl (Nat.le_of_ble_eq_true rfl) ?_
  intro p e s m args below meth c A C hr hk
  refine cv_iload_n (i := 1) (q := 1) 1 C dX6_would_0 rfl rfl rfl ?_
  refine cv_i2l (q := 2) C dX6_would_1 rfl ?_
  refine cv_lconst (v := 0) (q := 3) C dX6_would_2 (by decide) rfl ?_
  refine cv_ldc2 (v := 99) (q := 6) C dX6_would_3 (List.mem_of_getElem? (i := 1) rfl) rfl ?_
  obtain ⟨r1, hr1, hm⟩ := cv_bd_s hm
  refine cv_goE (q := 9) C (KX6_in (l := l) (σ := σ) (D := D) (cy := cy)     ((a1).toInt64) (0 : Int64) (99 : Int64) hr1) (cv_rs (As := [.long (a1).toInt64, .long (0 : Int64), .long (99 : Int64)]) (st := []) (n := 3) C (KX6_in (l := l) (σ := σ) (D := D) (cy := cy)     ((a1).toInt64) (0 : Int64) (99 : Int64) hr1) gX6_would_X6_in rfl ⟨rfl, rfl⟩ (by decide +kernel) rfl ⟨Nat.le_of_ble_eq_true rfl, Nat.le_of_ble_eq_true rfl⟩ rfl (Nat.le_of_ble_eq_true rfl) dX6_would_6 ⟨Nat.zero_le _, Nat.zero_le _⟩) rfl ?_
  refine cv_if_ne (tgt := 15) (q := 12) C dX6_would_9 (by decide) rfl (fun h2 => ?_) (fun h2 => ?_)
  · have hm := cv_if_f h2 hm
    refine cv_aload_n (i := 0) (q := 16) 0 C dX6_would_15 rfl rfl rfl ?_
    obtain ⟨r3, hr3, hm⟩ := cv_bd_s hm
    refine cv_goW (q := 19) C (KX6_lacks (l := l) (σ := σ) (D := D) (cy := cy)  q  S  hr3) (cv_rv (As := []) (st := []) (n := 0) (q0 := 0) (ci := 6) C (KX6_lacks (l := l) (σ := σ) (D := D) (cy := cy)  q  S  hr3) rfl rfl gX6_would_X6_lacks rfl ⟨rfl, rfl⟩ (by decide +kernel) rfl ⟨Nat.le_of_ble_eq_true rfl, Nat.le_of_ble_eq_true rfl⟩ rfl (Nat.le_of_ble_eq_true rfl) dX6_would_16 ⟨Nat.zero_le _, Nat.zero_le _⟩) rfl ?_
    refine cv_if_ne (tgt := 33) (q := 22) C dX6_would_19 (by decide) rfl (fun h4 => ?_) (fun h4 => ?_)
    · have hm := cv_if_f h4 hm
      refine cv_bipush (v := -103) (q := 35) C dX6_would_33 (by decide) rfl ?_
      refine cv_goto (tgt := 43) C dX6_would_35 (by decide) ?_
      obtain rfl := Option.some.inj hm
      exact cv_iret C hr hk dX6_would_43
    · have hm := cv_if_t h4 hm
      refine cv_aload_n (i := 0) (q := 23) 0 C dX6_would_22 rfl rfl rfl ?_
      refine cv_get (q := 26) C iX6_would_X6 0 rfl rfl 7 (by decide) (List.mem_of_getElem? (i := 2) rfl) rfl rfl dX6_would_23 rfl ?_
      refine cv_iconst (v := 0) (q := 27) C dX6_would_26 (by decide) rfl ?_
      obtain ⟨g5, hm⟩ := cv_gd_s hm
      refine cv_iald (q := 28) C 7 0 rfl rfl (vp_in_iff.mpr g5) dX6_would_27 rfl ?_
      refine cv_bipush (v := 40) (q := 30) C dX6_would_28 (by decide) rfl ?_
      refine cv_icmp_ne (tgt := 38) (q := 33) C dX6_would_30 (by decide) rfl (fun h6 => ?_) (fun h6 => ?_)
      · have hm := cv_if_f h6 hm
        refine cv_aload_n (i := 0) (q := 39) 0 C dX6_would_38 rfl rfl rfl ?_
        refine cv_iload_n (i := 1) (q := 40) 1 C dX6_would_39 rfl rfl rfl ?_
        obtain ⟨r7, hr7, hm⟩ := cv_bd_s hm
        refine cv_goW (q := 43) C (KX6_wouldOf (l := l) (σ := σ) (D := D) (cy := cy)  q  S a1 hr7) (cv_rv (As := [.int a1]) (st := []) (n := 1) (q0 := 0) (ci := 6) C (KX6_wouldOf (l := l) (σ := σ) (D := D) (cy := cy)  q  S a1 hr7) rfl rfl gX6_would_X6_wouldOf rfl ⟨rfl, rfl⟩ (by decide +kernel) rfl ⟨Nat.le_of_ble_eq_true rfl, Nat.le_of_ble_eq_true rfl⟩ rfl (Nat.le_of_ble_eq_true rfl) dX6_would_40 ⟨Nat.zero_le _, Nat.zero_le _⟩) rfl ?_
        obtain rfl := Option.some.inj hm
        exact cv_iret C hr hk dX6_would_43
      · have hm := cv_if_t h6 hm
        refine cv_bipush (v := -103) (q := 35) C dX6_would_33 (by decide) rfl ?_
        refine cv_goto (tgt := 43) C dX6_would_35 (by decide) ?_
        obtain rfl := Option.some.inj hm
        exact cv_iret C hr hk dX6_would_43
  · have hm := cv_if_t h2 hm
    refine cv_bipush (v := -102) (q := 14) C dX6_would_12 (by decide) rfl ?_
    obtain rfl := Option.some.inj hm
    exact cv_iret C hr hk dX6_would_14
def fX6_dearOf_L7 (u1 : Int32) : Nat → Int32 → Int32 → Int32 → SX6 → Option (Int32 × Int32 × SX6)
  | 0, _, _, _, _ => none
  | n + 1, y2, y3, y4, S =>
    if (100 : Int32) ≤ y4 then
      (
      some (y2, y3, S)
      )
    else
      (
      cv_gd (0 ≤ ((0 : Int32)).toInt ∧ ((0 : Int32)).toInt < 2) <|
      if (40 : Int32) ≤ ((gX6_many S) ((0 : Int32)).toNatClampNeg) then
        (
        some (y2, y3, S)
        )
      else
        (
        cv_bd (fX6_wouldOf S y4) fun r4 =>
        cv_bd (
          if r4.1 ≤ y3 then
            (
            some y2
            )
          else
            (
            some y4
            )
        ) fun j5 =>
        cv_bd (
          if r4.1 ≤ y3 then
            (
            some y3
            )
          else
            (
            some r4.1
            )
        ) fun j7 =>
        cv_lt (y4 + (1 : Int32)) fun x9 =>
        fX6_dearOf_L7 u1 n j5 j7 x9 r4.2
        )
      )
def fX6_dearOf (S : SX6) (a1 : Int32) : Option (Int32 × SX6) :=
  cv_bd (fX6_dearOf_L7 a1 256 (-1 : Int32) (-1 : Int32) (0 : Int32) S) fun j12 =>
  if a1 = 0 then
    (
    some (j12.1, j12.2.2)
    )
  else
    (
    some (j12.2.1, j12.2.2)
    )
abbrev rX6_dearOf : Room := { frames := 5, cells := 0, slots := 0, locals := 123 }
theorem iX6_dearOf_X6 : ∀ w ∈ u_ws RX6 TX6 50, w ∈ wsX6_dearOf := fun w h => List.mem_cons_of_mem _ (List.mem_append_right _ h)
set_option maxHeartbeats 4000000 in
set_option maxRecDepth 100000 in
theorem vX6_dearOf_L7 {p : Program} {l : Launch} {e : Env} {s : State} {m : MethodId} {args : Array Value} {below : List Frame} {meth : Method} {c : Code} {σ : Nat → Nat} {D : va_G} {A : Nat → Prop} {cy : ClassId} (q : Nat → Nat) (u1 : Int32) (C : cv_C p s m args c cX6_dearOf 6 RX6 wsX6_dearOf σ D [(cy, .int)] A) {Q : State → Prop} {j : Int32 × Int32 × SX6} : ∀ (n : Nat) (y2 : Int32) (y3 : Int32) (y4 : Int32) (S : SX6), fX6_dearOf_L7 u1 n y2 y3 y4 S = some j → cv_V p l e rX6_dearOf s m args below meth c 6 D A Q 0 0 (wX6 q cy j.2.2) 65 [(1, .int u1), (2, .int j.1), (3, .int j.2.1)] [] → cv_V p l e rX6_dearOf s m args below meth c 6 D A Q 0 0 (wX6 q cy S) 7 [(0, .ref (q 0)), (1, .int u1), (2, .int y2), (3, .int y3), (4, .int y4)] [] := by
  intro n
  induction n with
  | zero => intro y2 y3 y4 S hm kx; cases hm
  | succ n ih =>
    intro y2 y3 y4 S hm kx
    have hm : fX6_dearOf_L7 u1 (n + 1) y2 y3 y4 S = some j := hm
    unfold fX6_dearOf_L7 at hm
    refine cv_iload (i := 4) (q := 9) 4 C dX6_dearOf_7 rfl rfl ?_
    refine cv_bipush (v := 100) (q := 11) C dX6_dearOf_9 (by decide) rfl ?_
    refine cv_icmp_ge (tgt := 65) (q := 14) C dX6_dearOf_11 (by decide) rfl (fun h1 => ?_) (fun h1 => ?_)
    · have hm := cv_if_t h1 hm
      obtain rfl := Option.some.inj hm
      refine cv_sub [1, 2, 3] rfl ?_
      exact kx
    · have hm := cv_if_f h1 hm
      refine cv_aload_n (i := 0) (q := 15) 0 C dX6_dearOf_14 rfl rfl rfl ?_
      refine cv_get (q := 18) C iX6_dearOf_X6 0 rfl rfl 7 (by decide) (List.mem_of_getElem? (i := 1) rfl) rfl rfl dX6_dearOf_15 rfl ?_
      refine cv_iconst (v := 0) (q := 19) C dX6_dearOf_18 (by decide) rfl ?_
      obtain ⟨g2, hm⟩ := cv_gd_s hm
      refine cv_iald (q := 20) C 7 0 rfl rfl (vp_in_iff.mpr g2) dX6_dearOf_19 rfl ?_
      refine cv_bipush (v := 40) (q := 22) C dX6_dearOf_20 (by decide) rfl ?_
      refine cv_icmp_ge (tgt := 65) (q := 25) C dX6_dearOf_22 (by decide) rfl (fun h3 => ?_) (fun h3 => ?_)
      · have hm := cv_if_t h3 hm
        obtain rfl := Option.some.inj hm
        refine cv_sub [1, 2, 3] rfl ?_
        exact kx
      · have hm := cv_if_f h3 hm
        refine cv_aload_n (i := 0) (q := 26) 0 C dX6_dearOf_25 rfl rfl rfl ?_
        refine cv_iload (i := 4) (q := 28) 4 C dX6_dearOf_26 rfl rfl ?_
        obtain ⟨r4, hr4, hm⟩ := cv_bd_s hm
        refine cv_goW (q := 31) C (KX6_wouldOf (l := l) (σ := σ) (D := D) (cy := cy)  q  S y4 hr4) (cv_rv (As := [.int y4]) (st := []) (n := 1) (q0 := 0) (ci := 6) C (KX6_wouldOf (l := l) (σ := σ) (D := D) (cy := cy)  q  S y4 hr4) rfl rfl gX6_dearOf_X6_wouldOf rfl ⟨rfl, rfl⟩ (by decide +kernel) rfl ⟨Nat.le_of_ble_eq_true rfl, Nat.le_of_ble_eq_true rfl⟩ rfl (Nat.le_of_ble_eq_true rfl) dX6_dearOf_28 ⟨Nat.zero_le _, Nat.zero_le _⟩) rfl ?_
        refine cv_istore (i := 5) (lv' := [(5, .int r4.1), (0, .ref (q 0)), (1, .int u1), (2, .int y2), (3, .int y3), (4, .int y4)]) (q := 33) C dX6_dearOf_31 (by decide) rfl rfl ?_
        refine cv_iload (i := 5) (q := 35) 0 C dX6_dearOf_33 rfl rfl ?_
        refine cv_iload_n (i := 3) (q := 36) 4 C dX6_dearOf_35 rfl rfl rfl ?_
        obtain ⟨j5, hj5, hm⟩ := cv_bd_s hm
        refine cv_cut (ws' := (wX6 q cy r4.2)) (pc' := 45) (lv' := [(0, .ref (q 0)), (1, .int u1), (3, .int y3), (4, .int y4), (5, .int r4.1)]) (st' := [.int j5]) ?_ (fun K6 => ?_)
        · refine cv_istore_n (i := 2) (lv' := [(2, .int j5), (0, .ref (q 0)), (1, .int u1), (3, .int y3), (4, .int y4), (5, .int r4.1)]) (q := 46) C dX6_dearOf_45 rfl (by decide) rfl rfl ?_
          refine cv_iload (i := 5) (q := 48) 5 C dX6_dearOf_46 rfl rfl ?_
          refine cv_iload_n (i := 3) (q := 49) 3 C dX6_dearOf_48 rfl rfl rfl ?_
          obtain ⟨j7, hj7, hm⟩ := cv_bd_s hm
          refine cv_cut (ws' := (wX6 q cy r4.2)) (pc' := 58) (lv' := [(0, .ref (q 0)), (1, .int u1), (2, .int j5), (4, .int y4)]) (st' := [.int j7]) ?_ (fun K8 => ?_)
          · refine cv_istore_n (i := 3) (lv' := [(3, .int j7), (0, .ref (q 0)), (1, .int u1), (2, .int j5), (4, .int y4)]) (q := 59) C dX6_dearOf_58 rfl (by decide) rfl rfl ?_
            obtain ⟨x9, ex9, hm⟩ := cv_lt_s hm
            refine cv_iinc (v := x9) (lv' := [(4, .int x9), (3, .int j7), (0, .ref (q 0)), (1, .int u1), (2, .int j5)]) (q := 62) 4 C dX6_dearOf_59 rfl (by rw [ex9]; rfl) (by decide) rfl rfl ?_
            refine cv_goto (tgt := 7) C dX6_dearOf_62 (by decide) ?_
            refine cv_sub [2, 3, 4, 1, 0] rfl ?_
            exact ih j5 j7 x9 r4.2 hm kx
          · have hm := hj7
            refine cv_icmp_le (tgt := 57) (q := 52) C dX6_dearOf_49 (by decide) rfl (fun h10 => ?_) (fun h10 => ?_)
            · have hm := cv_if_t h10 hm
              refine cv_iload_n (i := 3) (q := 58) 3 C dX6_dearOf_57 rfl rfl rfl ?_
              obtain rfl := Option.some.inj hm
              refine cv_sub [1, 2, 0, 4] rfl ?_
              exact K8
            · have hm := cv_if_f h10 hm
              refine cv_iload (i := 5) (q := 54) 5 C dX6_dearOf_52 rfl rfl ?_
              refine cv_goto (tgt := 58) C dX6_dearOf_54 (by decide) ?_
              obtain rfl := Option.some.inj hm
              refine cv_sub [1, 2, 0, 4] rfl ?_
              exact K8
        · have hm := hj5
          refine cv_icmp_le (tgt := 44) (q := 39) C dX6_dearOf_36 (by decide) rfl (fun h11 => ?_) (fun h11 => ?_)
          · have hm := cv_if_t h11 hm
            refine cv_iload_n (i := 2) (q := 45) 3 C dX6_dearOf_44 rfl rfl rfl ?_
            obtain rfl := Option.some.inj hm
            refine cv_sub [1, 2, 4, 5, 0] rfl ?_
            exact K6
          · have hm := cv_if_f h11 hm
            refine cv_iload (i := 4) (q := 41) 5 C dX6_dearOf_39 rfl rfl ?_
            refine cv_goto (tgt := 45) C dX6_dearOf_41 (by decide) ?_
            obtain rfl := Option.some.inj hm
            refine cv_sub [1, 2, 4, 5, 0] rfl ?_
            exact K6
set_option maxHeartbeats 4000000 in
set_option maxRecDepth 100000 in
theorem KX6_dearOf {l : Launch} {σ : Nat → Nat} {D : va_G} {cy : ClassId} (q : Nat → Nat) (S : SX6) (a1 : Int32) {res : Int32 × SX6} (hm : fX6_dearOf S a1 = some res) : cv_M l yX6_dearOf wsX6_dearOf rX6_dearOf σ D [(cy, .int)] [.ref (q 0), .int a1] (wX6 q cy S) (some (.int res.1)) (wX6 q cy res.2) := by
  unfold fX6_dearOf at hm
  refine cv_M.of (own := RX6) (by decide +kernel) rfl rfl (lv := [(0, .ref (q 0)), (1, .int a1)]) rfl (Nat.le_of_ble_eq_true rfl) ?_
  intro p e s m args below meth c A C hr hk
  refine cv_iconst (v := -1) (q := 1) C dX6_dearOf_0 (by decide) rfl ?_
  refine cv_istore_n (i := 2) (lv' := [(2, .int (-1 : Int32)), (0, .ref (q 0)), (1, .int a1)]) (q := 2) C dX6_dearOf_1 rfl (by decide) rfl rfl ?_
  refine cv_iconst (v := -1) (q := 3) C dX6_dearOf_2 (by decide) rfl ?_
  refine cv_istore_n (i := 3) (lv' := [(3, .int (-1 : Int32)), (2, .int (-1 : Int32)), (0, .ref (q 0)), (1, .int a1)]) (q := 4) C dX6_dearOf_3 rfl (by decide) rfl rfl ?_
  refine cv_iconst (v := 0) (q := 5) C dX6_dearOf_4 (by decide) rfl ?_
  refine cv_istore (i := 4) (lv' := [(4, .int (0 : Int32)), (3, .int (-1 : Int32)), (2, .int (-1 : Int32)), (0, .ref (q 0)), (1, .int a1)]) (q := 7) C dX6_dearOf_5 (by decide) rfl rfl ?_
  obtain ⟨j12, hj12, hm⟩ := cv_bd_s hm
  refine cv_cut (ws' := (wX6 q cy j12.2.2)) (pc' := 65) (lv' := [(1, .int a1), (2, .int j12.1), (3, .int j12.2.1)]) (st' := []) ?_ (fun K13 => ?_)
  · refine cv_iload_n (i := 1) (q := 66) 0 C dX6_dearOf_65 rfl rfl rfl ?_
    refine cv_if_ne (tgt := 73) (q := 69) C dX6_dearOf_66 (by decide) rfl (fun h14 => ?_) (fun h14 => ?_)
    · have hm := cv_if_f h14 hm
      refine cv_iload_n (i := 3) (q := 74) 2 C dX6_dearOf_73 rfl rfl rfl ?_
      obtain rfl := Option.some.inj hm
      exact cv_iret C hr hk dX6_dearOf_74
    · have hm := cv_if_t h14 hm
      refine cv_iload_n (i := 2) (q := 70) 1 C dX6_dearOf_69 rfl rfl rfl ?_
      refine cv_goto (tgt := 74) C dX6_dearOf_70 (by decide) ?_
      obtain rfl := Option.some.inj hm
      exact cv_iret C hr hk dX6_dearOf_74
  · refine cv_sub [3, 4, 2, 1, 0] rfl ?_
    exact vX6_dearOf_L7 q a1 C 256 (-1 : Int32) (-1 : Int32) (0 : Int32) S hj12 K13
def fX6_dear (S : SX6) (a1 : Int32) : Option (Int32 × SX6) :=
  cv_bd (fX6_in ((a1).toInt64) (0 : Int64) (1 : Int64)) fun r1 =>
  if r1 = 0 then
    (
    some ((-102 : Int32), S)
    )
  else
    (
    cv_bd (fX6_lacks S) fun r3 =>
    if r3 = 0 then
      (
      cv_bd (fX6_dearOf S a1) fun r5 =>
      some (r5.1, r5.2)
      )
    else
      (
      some ((-103 : Int32), S)
      )
    )
abbrev rX6_dear : Room := { frames := 6, cells := 0, slots := 0, locals := 148 }
set_option maxHeartbeats 4000000 in
set_option maxRecDepth 100000 in
theorem KX6_dear {l : Launch} {σ : Nat → Nat} {D : va_G} {cy : ClassId} (q : Nat → Nat) (S : SX6) (a1 : Int32) {res : Int32 × SX6} (hm : fX6_dear S a1 = some res) : cv_M l yX6_dear wsX6_dear rX6_dear σ D [(cy, .int)] [.ref (q 0), .int a1] (wX6 q cy S) (some (.int res.1)) (wX6 q cy res.2) := by
  unfold fX6_dear at hm
  refine cv_M.of (own := RX6) (by decide +kernel) rfl rfl (lv := [(0, .ref (q 0)), (1, .int a1)]) rfl (Nat.le_of_ble_eq_true rfl) ?_
  intro p e s m args below meth c A C hr hk
  refine cv_iload_n (i := 1) (q := 1) 1 C dX6_dear_0 rfl rfl rfl ?_
  refine cv_i2l (q := 2) C dX6_dear_1 rfl ?_
  refine cv_lconst (v := 0) (q := 3) C dX6_dear_2 (by decide) rfl ?_
  refine cv_lconst (v := 1) (q := 4) C dX6_dear_3 (by decide) rfl ?_
  obtain ⟨r1, hr1, hm⟩ := cv_bd_s hm
  refine cv_goE (q := 7) C (KX6_in (l := l) (σ := σ) (D := D) (cy := cy)     ((a1).toInt64) (0 : Int64) (1 : Int64) hr1) (cv_rs (As := [.long (a1).toInt64, .long (0 : Int64), .long (1 : Int64)]) (st := []) (n := 3) C (KX6_in (l := l) (σ := σ) (D := D) (cy := cy)     ((a1).toInt64) (0 : Int64) (1 : Int64) hr1) gX6_dear_X6_in rfl ⟨rfl, rfl⟩ (by decide +kernel) rfl ⟨Nat.le_of_ble_eq_true rfl, Nat.le_of_ble_eq_true rfl⟩ rfl (Nat.le_of_ble_eq_true rfl) dX6_dear_4 ⟨Nat.zero_le _, Nat.zero_le _⟩) rfl ?_
  refine cv_if_ne (tgt := 13) (q := 10) C dX6_dear_7 (by decide) rfl (fun h2 => ?_) (fun h2 => ?_)
  · have hm := cv_if_f h2 hm
    refine cv_aload_n (i := 0) (q := 14) 0 C dX6_dear_13 rfl rfl rfl ?_
    obtain ⟨r3, hr3, hm⟩ := cv_bd_s hm
    refine cv_goW (q := 17) C (KX6_lacks (l := l) (σ := σ) (D := D) (cy := cy)  q  S  hr3) (cv_rv (As := []) (st := []) (n := 0) (q0 := 0) (ci := 6) C (KX6_lacks (l := l) (σ := σ) (D := D) (cy := cy)  q  S  hr3) rfl rfl gX6_dear_X6_lacks rfl ⟨rfl, rfl⟩ (by decide +kernel) rfl ⟨Nat.le_of_ble_eq_true rfl, Nat.le_of_ble_eq_true rfl⟩ rfl (Nat.le_of_ble_eq_true rfl) dX6_dear_14 ⟨Nat.zero_le _, Nat.zero_le _⟩) rfl ?_
    refine cv_if_eq (tgt := 25) (q := 20) C dX6_dear_17 (by decide) rfl (fun h4 => ?_) (fun h4 => ?_)
    · have hm := cv_if_t h4 hm
      refine cv_aload_n (i := 0) (q := 26) 0 C dX6_dear_25 rfl rfl rfl ?_
      refine cv_iload_n (i := 1) (q := 27) 1 C dX6_dear_26 rfl rfl rfl ?_
      obtain ⟨r5, hr5, hm⟩ := cv_bd_s hm
      refine cv_goW (q := 30) C (KX6_dearOf (l := l) (σ := σ) (D := D) (cy := cy)  q  S a1 hr5) (cv_rv (As := [.int a1]) (st := []) (n := 1) (q0 := 0) (ci := 6) C (KX6_dearOf (l := l) (σ := σ) (D := D) (cy := cy)  q  S a1 hr5) rfl rfl gX6_dear_X6_dearOf rfl ⟨rfl, rfl⟩ (by decide +kernel) rfl ⟨Nat.le_of_ble_eq_true rfl, Nat.le_of_ble_eq_true rfl⟩ rfl (Nat.le_of_ble_eq_true rfl) dX6_dear_27 ⟨Nat.zero_le _, Nat.zero_le _⟩) rfl ?_
      obtain rfl := Option.some.inj hm
      exact cv_iret C hr hk dX6_dear_30
    · have hm := cv_if_f h4 hm
      refine cv_bipush (v := -103) (q := 22) C dX6_dear_20 (by decide) rfl ?_
      refine cv_goto (tgt := 30) C dX6_dear_22 (by decide) ?_
      obtain rfl := Option.some.inj hm
      exact cv_iret C hr hk dX6_dear_30
  · have hm := cv_if_t h2 hm
    refine cv_bipush (v := -102) (q := 12) C dX6_dear_10 (by decide) rfl ?_
    obtain rfl := Option.some.inj hm
    exact cv_iret C hr hk dX6_dear_12
def fX6_replayOf_L18 (u3 : Int32) : Nat → Int32 → SX6 → Option (SX6)
  | 0, _, _ => none
  | n + 1, y4, S =>
    if (gX6_logMany S) ≤ y4 then
      (
      some S
      )
    else
      (
      cv_gd (0 ≤ (y4).toInt ∧ (y4).toInt < 60) <|
      cv_bd (
        if 0 ≤ ((gX6_log S) (y4).toNatClampNeg) then
          (
          cv_gd (0 ≤ (y4).toInt ∧ (y4).toInt < 60) <|
          cv_bd (fX6_enter S (1 : Int32) ((gX6_log S) (y4).toNatClampNeg)) fun r11 =>
          some r11
          )
        else
          (
          cv_gd (0 ≤ (y4).toInt ∧ (y4).toInt < 60) <|
          cv_bd (fX6_leave S (1 : Int32) ((-1 : Int32) - ((gX6_log S) (y4).toNatClampNeg))) fun r13 =>
          some r13
          )
      ) fun j6 =>
      cv_lt (y4 + (1 : Int32)) fun x8 =>
      fX6_replayOf_L18 u3 n x8 j6
      )
def fX6_replayOf (S : SX6) (a1 : Int32) (a2 : Int32) (a3 : Int32) : Option (Int32 × SX6) :=
  cv_bd (fX6_empty S (1 : Int32)) fun r1 =>
  cv_lt (sX6_thenA r1 a1) fun s2 =>
  cv_lt (sX6_thenB s2 a2) fun s3 =>
  cv_bd (fX6_replayOf_L18 a3 256 (0 : Int32) s3) fun j14 =>
  if a3 = 0 then
    (
    cv_gd (0 ≤ ((1 : Int32)).toInt ∧ ((1 : Int32)).toInt < 2) <|
    some (((gX6_cost j14) ((1 : Int32)).toNatClampNeg), j14)
    )
  else
    (
    cv_bd (fX6_tall j14 (1 : Int32)) fun r17 =>
    some (r17, j14)
    )
abbrev rX6_replayOf : Room := { frames := 5, cells := 0, slots := 0, locals := 115 }
theorem iX6_replayOf_X6 : ∀ w ∈ u_ws RX6 TX6 50, w ∈ wsX6_replayOf := fun w h => List.mem_cons_of_mem _ (List.mem_append_right _ h)
set_option maxHeartbeats 4000000 in
set_option maxRecDepth 100000 in
theorem vX6_replayOf_L18 {p : Program} {l : Launch} {e : Env} {s : State} {m : MethodId} {args : Array Value} {below : List Frame} {meth : Method} {c : Code} {σ : Nat → Nat} {D : va_G} {A : Nat → Prop} {cy : ClassId} (q : Nat → Nat) (u3 : Int32) (C : cv_C p s m args c cX6_replayOf 5 RX6 wsX6_replayOf σ D [(cy, .int)] A) {Q : State → Prop} {j : SX6} : ∀ (n : Nat) (y4 : Int32) (S : SX6), fX6_replayOf_L18 u3 n y4 S = some j → cv_V p l e rX6_replayOf s m args below meth c 5 D A Q 0 0 (wX6 q cy j) 72 [(0, .ref (q 0)), (3, .int u3)] [] → cv_V p l e rX6_replayOf s m args below meth c 5 D A Q 0 0 (wX6 q cy S) 18 [(0, .ref (q 0)), (3, .int u3), (4, .int y4)] [] := by
  intro n
  induction n with
  | zero => intro y4 S hm kx; cases hm
  | succ n ih =>
    intro y4 S hm kx
    have hm : fX6_replayOf_L18 u3 (n + 1) y4 S = some j := hm
    unfold fX6_replayOf_L18 at hm
    refine cv_iload (i := 4) (q := 20) 2 C dX6_replayOf_18 rfl rfl ?_
    refine cv_aload_n (i := 0) (q := 21) 0 C dX6_replayOf_20 rfl rfl rfl ?_
    refine cv_get (q := 24) C iX6_replayOf_X6 0 rfl rfl 22 (by decide) (List.mem_of_getElem? (i := 3) rfl) rfl rfl dX6_replayOf_21 rfl ?_
    refine cv_icmp_ge (tgt := 72) (q := 27) C dX6_replayOf_24 (by decide) rfl (fun h4 => ?_) (fun h4 => ?_)
    · have hm := cv_if_t h4 hm
      obtain rfl := Option.some.inj hm
      refine cv_sub [0, 1] rfl ?_
      exact kx
    · have hm := cv_if_f h4 hm
      refine cv_aload_n (i := 0) (q := 28) 0 C dX6_replayOf_27 rfl rfl rfl ?_
      refine cv_get (q := 31) C iX6_replayOf_X6 0 rfl rfl 21 (by decide) (List.mem_of_getElem? (i := 4) rfl) rfl rfl dX6_replayOf_28 rfl ?_
      refine cv_iload (i := 4) (q := 33) 2 C dX6_replayOf_31 rfl rfl ?_
      obtain ⟨g5, hm⟩ := cv_gd_s hm
      refine cv_iald (q := 34) C 13 0 rfl rfl (vp_in_iff.mpr g5) dX6_replayOf_33 rfl ?_
      obtain ⟨j6, hj6, hm⟩ := cv_bd_s hm
      refine cv_cut (ws' := (wX6 q cy j6)) (pc' := 66) (lv' := [(0, .ref (q 0)), (3, .int u3), (4, .int y4)]) (st' := []) ?_ (fun K7 => ?_)
      · obtain ⟨x8, ex8, hm⟩ := cv_lt_s hm
        refine cv_iinc (v := x8) (lv' := [(4, .int x8), (0, .ref (q 0)), (3, .int u3)]) (q := 69) 2 C dX6_replayOf_66 rfl (by rw [ex8]; rfl) (by decide) rfl rfl ?_
        refine cv_goto (tgt := 18) C dX6_replayOf_69 (by decide) ?_
        refine cv_sub [1, 2, 0] rfl ?_
        exact ih x8 j6 hm kx
      · have hm := hj6
        refine cv_if_ge (tgt := 54) (q := 37) C dX6_replayOf_34 (by decide) rfl (fun h9 => ?_) (fun h9 => ?_)
        · have hm := cv_if_t h9 hm
          refine cv_aload_n (i := 0) (q := 55) 0 C dX6_replayOf_54 rfl rfl rfl ?_
          refine cv_iconst (v := 1) (q := 56) C dX6_replayOf_55 (by decide) rfl ?_
          refine cv_aload_n (i := 0) (q := 57) 0 C dX6_replayOf_56 rfl rfl rfl ?_
          refine cv_get (q := 60) C iX6_replayOf_X6 0 rfl rfl 21 (by decide) (List.mem_of_getElem? (i := 4) rfl) rfl rfl dX6_replayOf_57 rfl ?_
          refine cv_iload (i := 4) (q := 62) 2 C dX6_replayOf_60 rfl rfl ?_
          obtain ⟨g10, hm⟩ := cv_gd_s hm
          refine cv_iald (q := 63) C 13 0 rfl rfl (vp_in_iff.mpr g10) dX6_replayOf_62 rfl ?_
          obtain ⟨r11, hr11, hm⟩ := cv_bd_s hm
          refine cv_goW (q := 66) C (KX6_enter (l := l) (σ := σ) (D := D) (cy := cy)  q  S (1 : Int32) ((gX6_log S) (y4).toNatClampNeg) hr11) (cv_rv (As := [.int (1 : Int32), .int ((gX6_log S) (y4).toNatClampNeg)]) (st := []) (n := 2) (q0 := 0) (ci := 6) C (KX6_enter (l := l) (σ := σ) (D := D) (cy := cy)  q  S (1 : Int32) ((gX6_log S) (y4).toNatClampNeg) hr11) rfl rfl gX6_replayOf_X6_enter rfl ⟨rfl, rfl⟩ (by decide +kernel) rfl ⟨Nat.le_of_ble_eq_true rfl, Nat.le_of_ble_eq_true rfl⟩ rfl (Nat.le_of_ble_eq_true rfl) dX6_replayOf_63 ⟨Nat.zero_le _, Nat.zero_le _⟩) rfl ?_
          obtain rfl := Option.some.inj hm
          exact K7
        · have hm := cv_if_f h9 hm
          refine cv_aload_n (i := 0) (q := 38) 0 C dX6_replayOf_37 rfl rfl rfl ?_
          refine cv_iconst (v := 1) (q := 39) C dX6_replayOf_38 (by decide) rfl ?_
          refine cv_iconst (v := -1) (q := 40) C dX6_replayOf_39 (by decide) rfl ?_
          refine cv_aload_n (i := 0) (q := 41) 0 C dX6_replayOf_40 rfl rfl rfl ?_
          refine cv_get (q := 44) C iX6_replayOf_X6 0 rfl rfl 21 (by decide) (List.mem_of_getElem? (i := 4) rfl) rfl rfl dX6_replayOf_41 rfl ?_
          refine cv_iload (i := 4) (q := 46) 2 C dX6_replayOf_44 rfl rfl ?_
          obtain ⟨g12, hm⟩ := cv_gd_s hm
          refine cv_iald (q := 47) C 13 0 rfl rfl (vp_in_iff.mpr g12) dX6_replayOf_46 rfl ?_
          refine cv_isub (q := 48) C dX6_replayOf_47 rfl ?_
          obtain ⟨r13, hr13, hm⟩ := cv_bd_s hm
          refine cv_goW (q := 51) C (KX6_leave (l := l) (σ := σ) (D := D) (cy := cy)  q  S (1 : Int32) ((-1 : Int32) - ((gX6_log S) (y4).toNatClampNeg)) hr13) (cv_rv (As := [.int (1 : Int32), .int ((-1 : Int32) - ((gX6_log S) (y4).toNatClampNeg))]) (st := []) (n := 2) (q0 := 0) (ci := 6) C (KX6_leave (l := l) (σ := σ) (D := D) (cy := cy)  q  S (1 : Int32) ((-1 : Int32) - ((gX6_log S) (y4).toNatClampNeg)) hr13) rfl rfl gX6_replayOf_X6_leave rfl ⟨rfl, rfl⟩ (by decide +kernel) rfl ⟨Nat.le_of_ble_eq_true rfl, Nat.le_of_ble_eq_true rfl⟩ rfl (Nat.le_of_ble_eq_true rfl) dX6_replayOf_48 ⟨Nat.zero_le _, Nat.zero_le _⟩) rfl ?_
          refine cv_goto (tgt := 66) C dX6_replayOf_51 (by decide) ?_
          obtain rfl := Option.some.inj hm
          exact K7
set_option maxHeartbeats 4000000 in
set_option maxRecDepth 100000 in
theorem KX6_replayOf {l : Launch} {σ : Nat → Nat} {D : va_G} {cy : ClassId} (q : Nat → Nat) (S : SX6) (a1 : Int32) (a2 : Int32) (a3 : Int32) {res : Int32 × SX6} (hm : fX6_replayOf S a1 a2 a3 = some res) : cv_M l yX6_replayOf wsX6_replayOf rX6_replayOf σ D [(cy, .int)] [.ref (q 0), .int a1, .int a2, .int a3] (wX6 q cy S) (some (.int res.1)) (wX6 q cy res.2) := by
  unfold fX6_replayOf at hm
  refine cv_M.of (own := RX6) (by decide +kernel) rfl rfl (lv := [(0, .ref (q 0)), (1, .int a1), (2, .int a2), (3, .int a3)]) rfl (Nat.le_of_ble_eq_true rfl) ?_
  intro p e s m args below meth c A C hr hk
  refine cv_aload_n (i := 0) (q := 1) 0 C dX6_replayOf_0 rfl rfl rfl ?_
  refine cv_iconst (v := 1) (q := 2) C dX6_replayOf_1 (by decide) rfl ?_
  obtain ⟨r1, hr1, hm⟩ := cv_bd_s hm
  refine cv_goW (q := 5) C (KX6_empty (l := l) (σ := σ) (D := D) (cy := cy)  q  S (1 : Int32) hr1) (cv_rv (As := [.int (1 : Int32)]) (st := []) (n := 1) (q0 := 0) (ci := 6) C (KX6_empty (l := l) (σ := σ) (D := D) (cy := cy)  q  S (1 : Int32) hr1) rfl rfl gX6_replayOf_X6_empty rfl ⟨rfl, rfl⟩ (by decide +kernel) rfl ⟨Nat.le_of_ble_eq_true rfl, Nat.le_of_ble_eq_true rfl⟩ rfl (Nat.le_of_ble_eq_true rfl) dX6_replayOf_2 ⟨Nat.zero_le _, Nat.zero_le _⟩) rfl ?_
  refine cv_aload_n (i := 0) (q := 6) 0 C dX6_replayOf_5 rfl rfl rfl ?_
  refine cv_iload_n (i := 1) (q := 7) 1 C dX6_replayOf_6 rfl rfl rfl ?_
  obtain ⟨s2, es2, hm⟩ := cv_lt_s hm
  refine cv_put (q := 10) (ws' := (wX6 q cy s2)) C iX6_replayOf_X6 tyX6 tyX6_ok nmX6 0 rfl rfl 16 (by decide) (List.mem_of_getElem? (i := 1) rfl) rfl rfl rfl rfl rfl (Nat.le_of_ble_eq_true rfl) dX6_replayOf_7 rfl (by rw [es2]; rfl) ?_
  refine cv_aload_n (i := 0) (q := 11) 0 C dX6_replayOf_10 rfl rfl rfl ?_
  refine cv_iload_n (i := 2) (q := 12) 2 C dX6_replayOf_11 rfl rfl rfl ?_
  obtain ⟨s3, es3, hm⟩ := cv_lt_s hm
  refine cv_put (q := 15) (ws' := (wX6 q cy s3)) C iX6_replayOf_X6 tyX6 tyX6_ok nmX6 0 rfl rfl 17 (by decide) (List.mem_of_getElem? (i := 2) rfl) rfl rfl rfl rfl rfl (Nat.le_of_ble_eq_true rfl) dX6_replayOf_12 rfl (by rw [es3]; rfl) ?_
  refine cv_iconst (v := 0) (q := 16) C dX6_replayOf_15 (by decide) rfl ?_
  refine cv_istore (i := 4) (lv' := [(4, .int (0 : Int32)), (0, .ref (q 0)), (1, .int a1), (2, .int a2), (3, .int a3)]) (q := 18) C dX6_replayOf_16 (by decide) rfl rfl ?_
  obtain ⟨j14, hj14, hm⟩ := cv_bd_s hm
  refine cv_cut (ws' := (wX6 q cy j14)) (pc' := 72) (lv' := [(0, .ref (q 0)), (3, .int a3)]) (st' := []) ?_ (fun K15 => ?_)
  · refine cv_iload_n (i := 3) (q := 73) 1 C dX6_replayOf_72 rfl rfl rfl ?_
    refine cv_if_ne (tgt := 85) (q := 76) C dX6_replayOf_73 (by decide) rfl (fun h16 => ?_) (fun h16 => ?_)
    · have hm := cv_if_f h16 hm
      refine cv_aload_n (i := 0) (q := 86) 0 C dX6_replayOf_85 rfl rfl rfl ?_
      refine cv_iconst (v := 1) (q := 87) C dX6_replayOf_86 (by decide) rfl ?_
      obtain ⟨r17, hr17, hm⟩ := cv_bd_s hm
      refine cv_goW (q := 90) C (KX6_tall (l := l) (σ := σ) (D := D) (cy := cy)  q  j14 (1 : Int32) hr17) (cv_rv (As := [.int (1 : Int32)]) (st := []) (n := 1) (q0 := 0) (ci := 6) C (KX6_tall (l := l) (σ := σ) (D := D) (cy := cy)  q  j14 (1 : Int32) hr17) rfl rfl gX6_replayOf_X6_tall rfl ⟨rfl, rfl⟩ (by decide +kernel) rfl ⟨Nat.le_of_ble_eq_true rfl, Nat.le_of_ble_eq_true rfl⟩ rfl (Nat.le_of_ble_eq_true rfl) dX6_replayOf_87 ⟨Nat.zero_le _, Nat.zero_le _⟩) rfl ?_
      obtain rfl := Option.some.inj hm
      exact cv_iret C hr hk dX6_replayOf_90
    · have hm := cv_if_t h16 hm
      refine cv_aload_n (i := 0) (q := 77) 0 C dX6_replayOf_76 rfl rfl rfl ?_
      refine cv_get (q := 80) C iX6_replayOf_X6 0 rfl rfl 11 (by decide) (List.mem_of_getElem? (i := 5) rfl) rfl rfl dX6_replayOf_77 rfl ?_
      refine cv_iconst (v := 1) (q := 81) C dX6_replayOf_80 (by decide) rfl ?_
      obtain ⟨g18, hm⟩ := cv_gd_s hm
      refine cv_iald (q := 82) C 10 0 rfl rfl (vp_in_iff.mpr g18) dX6_replayOf_81 rfl ?_
      refine cv_goto (tgt := 90) C dX6_replayOf_82 (by decide) ?_
      obtain rfl := Option.some.inj hm
      exact cv_iret C hr hk dX6_replayOf_90
  · refine cv_sub [1, 4, 0] rfl ?_
    exact vX6_replayOf_L18 q a3 C 256 (0 : Int32) s3 hj14 K15
