def fX4_heirOf (S : SX4) (a1 : Int32) : Option (Int32 × SX4) :=
  cv_gd (0 ≤ (a1).toInt ∧ (a1).toInt < 100) <|
  cv_bd (fX4_has S ((gX4_lefts S) (a1).toNatClampNeg)) fun r2 =>
  if r2 = 0 then
    (
    cv_gd (0 ≤ (a1).toInt ∧ (a1).toInt < 100) <|
    some (((gX4_rights S) (a1).toNatClampNeg), S)
    )
  else
    (
    cv_gd (0 ≤ (a1).toInt ∧ (a1).toInt < 100) <|
    cv_bd (fX4_has S ((gX4_rights S) (a1).toNatClampNeg)) fun r5 =>
    if r5 = 0 then
      (
      cv_gd (0 ≤ (a1).toInt ∧ (a1).toInt < 100) <|
      some (((gX4_lefts S) (a1).toNatClampNeg), S)
      )
    else
      (
      cv_bd (fX4_liftLeast S a1) fun r7 =>
      some (r7.1, r7.2)
      )
    )
abbrev rX4_heirOf : Room := { frames := 2, cells := 0, slots := 0, locals := 45 }
theorem iX4_heirOf_X4 : ∀ w ∈ u_ws RX4 TX4 12, w ∈ wsX4_heirOf := fun w h => List.mem_cons_of_mem _ (List.mem_append_right _ h)
set_option maxHeartbeats 4000000 in
set_option maxRecDepth 100000 in
theorem KX4_heirOf {l : Launch} {σ : Nat → Nat} {D : va_G} {cy : ClassId} (q : Nat → Nat) (S : SX4) (a1 : Int32) {res : Int32 × SX4} (hm : fX4_heirOf S a1 = some res) : cv_M l yX4_heirOf wsX4_heirOf rX4_heirOf σ D [(cy, .int)] [.ref (q 0), .int a1] (wX4 q cy S) (some (.int res.1)) (wX4 q cy res.2) := by
  unfold fX4_heirOf at hm
  refine cv_M.of (own := RX4) (by decide +kernel) rfl rfl (lv := [(0, .ref (q 0)), (1, .int a1)]) rfl (Nat.le_of_ble_eq_true rfl) ?_
  intro p e s m args below meth c A C hr hk
  refine cv_aload_n (i := 0) (q := 1) 0 C dX4_heirOf_0 rfl rfl rfl ?_
  refine cv_aload_n (i := 0) (q := 2) 0 C dX4_heirOf_1 rfl rfl rfl ?_
  refine cv_get (q := 5) C iX4_heirOf_X4 0 rfl rfl 0 (by decide) (List.mem_of_getElem? (i := 1) rfl) rfl rfl dX4_heirOf_2 rfl ?_
  refine cv_iload_n (i := 1) (q := 6) 1 C dX4_heirOf_5 rfl rfl rfl ?_
  obtain ⟨g1, hm⟩ := cv_gd_s hm
  refine cv_iald (q := 7) C 1 0 rfl rfl (vp_in_iff.mpr g1) dX4_heirOf_6 rfl ?_
  obtain ⟨r2, hr2, hm⟩ := cv_bd_s hm
  refine cv_goW (q := 10) C (KX4_has (l := l) (σ := σ) (D := D) (cy := cy)  q  S ((gX4_lefts S) (a1).toNatClampNeg) hr2) (cv_rv (As := [.int ((gX4_lefts S) (a1).toNatClampNeg)]) (st := []) (n := 1) (q0 := 0) (ci := 4) C (KX4_has (l := l) (σ := σ) (D := D) (cy := cy)  q  S ((gX4_lefts S) (a1).toNatClampNeg) hr2) rfl rfl gX4_heirOf_X4_has rfl ⟨rfl, rfl⟩ (by decide +kernel) rfl ⟨Nat.le_of_ble_eq_true rfl, Nat.le_of_ble_eq_true rfl⟩ rfl (Nat.le_of_ble_eq_true rfl) dX4_heirOf_7 ⟨Nat.zero_le _, Nat.zero_le _⟩) rfl ?_
  refine cv_if_ne (tgt := 20) (q := 13) C dX4_heirOf_10 (by decide) rfl (fun h3 => ?_) (fun h3 => ?_)
  · have hm := cv_if_f h3 hm
    refine cv_aload_n (i := 0) (q := 21) 0 C dX4_heirOf_20 rfl rfl rfl ?_
    refine cv_aload_n (i := 0) (q := 22) 0 C dX4_heirOf_21 rfl rfl rfl ?_
    refine cv_get (q := 25) C iX4_heirOf_X4 0 rfl rfl 1 (by decide) (List.mem_of_getElem? (i := 2) rfl) rfl rfl dX4_heirOf_22 rfl ?_
    refine cv_iload_n (i := 1) (q := 26) 1 C dX4_heirOf_25 rfl rfl rfl ?_
    obtain ⟨g4, hm⟩ := cv_gd_s hm
    refine cv_iald (q := 27) C 2 0 rfl rfl (vp_in_iff.mpr g4) dX4_heirOf_26 rfl ?_
    obtain ⟨r5, hr5, hm⟩ := cv_bd_s hm
    refine cv_goW (q := 30) C (KX4_has (l := l) (σ := σ) (D := D) (cy := cy)  q  S ((gX4_rights S) (a1).toNatClampNeg) hr5) (cv_rv (As := [.int ((gX4_rights S) (a1).toNatClampNeg)]) (st := []) (n := 1) (q0 := 0) (ci := 4) C (KX4_has (l := l) (σ := σ) (D := D) (cy := cy)  q  S ((gX4_rights S) (a1).toNatClampNeg) hr5) rfl rfl gX4_heirOf_X4_has rfl ⟨rfl, rfl⟩ (by decide +kernel) rfl ⟨Nat.le_of_ble_eq_true rfl, Nat.le_of_ble_eq_true rfl⟩ rfl (Nat.le_of_ble_eq_true rfl) dX4_heirOf_27 ⟨Nat.zero_le _, Nat.zero_le _⟩) rfl ?_
    refine cv_if_ne (tgt := 40) (q := 33) C dX4_heirOf_30 (by decide) rfl (fun h6 => ?_) (fun h6 => ?_)
    · have hm := cv_if_f h6 hm
      refine cv_aload_n (i := 0) (q := 41) 0 C dX4_heirOf_40 rfl rfl rfl ?_
      refine cv_iload_n (i := 1) (q := 42) 1 C dX4_heirOf_41 rfl rfl rfl ?_
      obtain ⟨r7, hr7, hm⟩ := cv_bd_s hm
      refine cv_goW (q := 45) C (KX4_liftLeast (l := l) (σ := σ) (D := D) (cy := cy)  q  S a1 hr7) (cv_rv (As := [.int a1]) (st := []) (n := 1) (q0 := 0) (ci := 4) C (KX4_liftLeast (l := l) (σ := σ) (D := D) (cy := cy)  q  S a1 hr7) rfl rfl gX4_heirOf_X4_liftLeast rfl ⟨rfl, rfl⟩ (by decide +kernel) rfl ⟨Nat.le_of_ble_eq_true rfl, Nat.le_of_ble_eq_true rfl⟩ rfl (Nat.le_of_ble_eq_true rfl) dX4_heirOf_42 ⟨Nat.zero_le _, Nat.zero_le _⟩) rfl ?_
      obtain rfl := Option.some.inj hm
      exact cv_iret C hr hk dX4_heirOf_45
    · have hm := cv_if_t h6 hm
      refine cv_aload_n (i := 0) (q := 34) 0 C dX4_heirOf_33 rfl rfl rfl ?_
      refine cv_get (q := 37) C iX4_heirOf_X4 0 rfl rfl 0 (by decide) (List.mem_of_getElem? (i := 1) rfl) rfl rfl dX4_heirOf_34 rfl ?_
      refine cv_iload_n (i := 1) (q := 38) 1 C dX4_heirOf_37 rfl rfl rfl ?_
      obtain ⟨g8, hm⟩ := cv_gd_s hm
      refine cv_iald (q := 39) C 1 0 rfl rfl (vp_in_iff.mpr g8) dX4_heirOf_38 rfl ?_
      obtain rfl := Option.some.inj hm
      exact cv_iret C hr hk dX4_heirOf_39
  · have hm := cv_if_t h3 hm
    refine cv_aload_n (i := 0) (q := 14) 0 C dX4_heirOf_13 rfl rfl rfl ?_
    refine cv_get (q := 17) C iX4_heirOf_X4 0 rfl rfl 1 (by decide) (List.mem_of_getElem? (i := 2) rfl) rfl rfl dX4_heirOf_14 rfl ?_
    refine cv_iload_n (i := 1) (q := 18) 1 C dX4_heirOf_17 rfl rfl rfl ?_
    obtain ⟨g9, hm⟩ := cv_gd_s hm
    refine cv_iald (q := 19) C 2 0 rfl rfl (vp_in_iff.mpr g9) dX4_heirOf_18 rfl ?_
    obtain rfl := Option.some.inj hm
    exact cv_iret C hr hk dX4_heirOf_19
def fX4_isFew (S : SX4) (a1 : Int32) : Option (Int32) :=
  if a1 ≤ 0 then
    (
    some (0 : Int32)
    )
  else
    (
    if ((gX4_a S) * (gX4_most S)) ≤ ((gX4_b S) * a1) then
      (
      some (0 : Int32)
      )
    else
      (
      some (1 : Int32)
      )
    )
abbrev rX4_isFew : Room := { frames := 0, cells := 0, slots := 0, locals := 0 }
theorem iX4_isFew_X4 : ∀ w ∈ u_ws RX4 TX4 12, w ∈ wsX4_isFew := fun w h => List.mem_cons_of_mem _ (List.mem_append_right _ h)
set_option maxHeartbeats 4000000 in
set_option maxRecDepth 100000 in
theorem KX4_isFew {l : Launch} {σ : Nat → Nat} {D : va_G} {cy : ClassId} (q : Nat → Nat) (S : SX4) (a1 : Int32) {res : Int32} (hm : fX4_isFew S a1 = some res) : cv_M l yX4_isFew wsX4_isFew rX4_isFew σ D [(cy, .int)] [.ref (q 0), .int a1] (wX4 q cy S) (some (.int res)) (wX4 q cy S) := by
  unfold fX4_isFew at hm
  refine cv_M.of (own := RX4) (by decide +kernel) rfl rfl (lv := [(0, .ref (q 0)), (1, .int a1)]) rfl (Nat.le_of_ble_eq_true rfl) ?_
  intro p e s m args below meth c A C hr hk
  refine cv_iload_n (i := 1) (q := 1) 1 C dX4_isFew_0 rfl rfl rfl ?_
  refine cv_if_le (tgt := 26) (q := 4) C dX4_isFew_1 (by decide) rfl (fun h1 => ?_) (fun h1 => ?_)
  · have hm := cv_if_t h1 hm
    refine cv_iconst (v := 0) (q := 27) C dX4_isFew_26 (by decide) rfl ?_
    obtain rfl := Option.some.inj hm
    exact cv_zret C hr hk (cv_bool (Or.inl rfl)) dX4_isFew_27
  · have hm := cv_if_f h1 hm
    refine cv_aload_n (i := 0) (q := 5) 0 C dX4_isFew_4 rfl rfl rfl ?_
    refine cv_get (q := 8) C iX4_isFew_X4 0 rfl rfl 7 (by decide) (List.mem_of_getElem? (i := 1) rfl) rfl rfl dX4_isFew_5 rfl ?_
    refine cv_iload_n (i := 1) (q := 9) 1 C dX4_isFew_8 rfl rfl rfl ?_
    refine cv_imul (q := 10) C dX4_isFew_9 rfl ?_
    refine cv_aload_n (i := 0) (q := 11) 0 C dX4_isFew_10 rfl rfl rfl ?_
    refine cv_get (q := 14) C iX4_isFew_X4 0 rfl rfl 6 (by decide) (List.mem_of_getElem? (i := 2) rfl) rfl rfl dX4_isFew_11 rfl ?_
    refine cv_aload_n (i := 0) (q := 15) 0 C dX4_isFew_14 rfl rfl rfl ?_
    refine cv_get (q := 18) C iX4_isFew_X4 0 rfl rfl 9 (by decide) (List.mem_of_getElem? (i := 3) rfl) rfl rfl dX4_isFew_15 rfl ?_
    refine cv_imul (q := 19) C dX4_isFew_18 rfl ?_
    refine cv_icmp_ge (tgt := 26) (q := 22) C dX4_isFew_19 (by decide) rfl (fun h2 => ?_) (fun h2 => ?_)
    · have hm := cv_if_t h2 hm
      refine cv_iconst (v := 0) (q := 27) C dX4_isFew_26 (by decide) rfl ?_
      obtain rfl := Option.some.inj hm
      exact cv_zret C hr hk (cv_bool (Or.inl rfl)) dX4_isFew_27
    · have hm := cv_if_f h2 hm
      refine cv_iconst (v := 1) (q := 23) C dX4_isFew_22 (by decide) rfl ?_
      refine cv_goto (tgt := 27) C dX4_isFew_23 (by decide) ?_
      obtain rfl := Option.some.inj hm
      exact cv_zret C hr hk (cv_bool (Or.inr rfl)) dX4_isFew_27
def fX4_buildAll (S : SX4) : Option (Int32 × SX4) :=
  if (gX4_root S) = (-1 : Int32) then
    (
    some ((0 : Int32), S)
    )
  else
    (
    cv_gd (0 ≤ ((0 : Int32)).toInt ∧ ((0 : Int32)).toInt < 40) <|
    cv_lt (sX4_way S (upd (gX4_way S) ((0 : Int32)).toNatClampNeg (gX4_root S))) fun s3 =>
    cv_bd (fX4_build s3 (0 : Int32)) fun r4 =>
    some (r4.1, r4.2)
    )
abbrev rX4_buildAll : Room := { frames := 10, cells := 0, slots := 0, locals := 247 }
theorem iX4_buildAll_X4 : ∀ w ∈ u_ws RX4 TX4 12, w ∈ wsX4_buildAll := fun w h => List.mem_cons_of_mem _ (List.mem_append_right _ h)
set_option maxHeartbeats 4000000 in
set_option maxRecDepth 100000 in
theorem KX4_buildAll {l : Launch} {σ : Nat → Nat} {D : va_G} {cy : ClassId} (q : Nat → Nat) (S : SX4) {res : Int32 × SX4} (hm : fX4_buildAll S = some res) : cv_M l yX4_buildAll wsX4_buildAll rX4_buildAll σ D [(cy, .int)] [.ref (q 0)] (wX4 q cy S) (some (.int res.1)) (wX4 q cy res.2) := by
  unfold fX4_buildAll at hm
  refine cv_M.of (own := RX4) (by decide +kernel) rfl rfl (lv := [(0, .ref (q 0))]) rfl (Nat.le_of_ble_eq_true rfl) ?_
  intro p e s m args below meth c A C hr hk
  refine cv_aload_n (i := 0) (q := 1) 0 C dX4_buildAll_0 rfl rfl rfl ?_
  refine cv_get (q := 4) C iX4_buildAll_X4 0 rfl rfl 5 (by decide) (List.mem_of_getElem? (i := 1) rfl) rfl rfl dX4_buildAll_1 rfl ?_
  refine cv_iconst (v := -1) (q := 5) C dX4_buildAll_4 (by decide) rfl ?_
  refine cv_icmp_ne (tgt := 10) (q := 8) C dX4_buildAll_5 (by decide) rfl (fun h1 => ?_) (fun h1 => ?_)
  · have hm := cv_if_f h1 hm
    refine cv_aload_n (i := 0) (q := 11) 0 C dX4_buildAll_10 rfl rfl rfl ?_
    refine cv_get (q := 14) C iX4_buildAll_X4 0 rfl rfl 3 (by decide) (List.mem_of_getElem? (i := 2) rfl) rfl rfl dX4_buildAll_11 rfl ?_
    refine cv_iconst (v := 0) (q := 15) C dX4_buildAll_14 (by decide) rfl ?_
    refine cv_aload_n (i := 0) (q := 16) 0 C dX4_buildAll_15 rfl rfl rfl ?_
    refine cv_get (q := 19) C iX4_buildAll_X4 0 rfl rfl 5 (by decide) (List.mem_of_getElem? (i := 1) rfl) rfl rfl dX4_buildAll_16 rfl ?_
    obtain ⟨g2, hm⟩ := cv_gd_s hm
    obtain ⟨s3, es3, hm⟩ := cv_lt_s hm
    refine cv_iast (q := 20) (ws' := (wX4 q cy s3)) C 4 0 rfl rfl (vp_in_iff.mpr g2) dX4_buildAll_19 rfl (by rw [es3]; rfl) ?_
    refine cv_aload_n (i := 0) (q := 21) 0 C dX4_buildAll_20 rfl rfl rfl ?_
    refine cv_iconst (v := 0) (q := 22) C dX4_buildAll_21 (by decide) rfl ?_
    obtain ⟨r4, hr4, hm⟩ := cv_bd_s hm
    refine cv_goW (q := 25) C (KX4_build (l := l) (σ := σ) (D := D) (cy := cy)  q  s3 (0 : Int32) hr4) (cv_rv (As := [.int (0 : Int32)]) (st := []) (n := 1) (q0 := 0) (ci := 4) C (KX4_build (l := l) (σ := σ) (D := D) (cy := cy)  q  s3 (0 : Int32) hr4) rfl rfl gX4_buildAll_X4_build rfl ⟨rfl, rfl⟩ (by decide +kernel) rfl ⟨Nat.le_of_ble_eq_true rfl, Nat.le_of_ble_eq_true rfl⟩ rfl (Nat.le_of_ble_eq_true rfl) dX4_buildAll_22 ⟨Nat.zero_le _, Nat.zero_le _⟩) rfl ?_
    obtain rfl := Option.some.inj hm
    exact cv_iret C hr hk dX4_buildAll_25
  · have hm := cv_if_t h1 hm
    refine cv_iconst (v := 0) (q := 9) C dX4_buildAll_8 (by decide) rfl ?_
    obtain rfl := Option.some.inj hm
    exact cv_iret C hr hk dX4_buildAll_9
def fX4_drop (S : SX4) (a1 : Int32) : Option (Int32 × SX4) :=
  cv_bd (fX4_walk S a1) fun r1 =>
  cv_bd (fX4_changeSizes r1.2 r1.1 (-1 : Int32)) fun r2 =>
  cv_bd (fX4_onWay r2 (r1.1 - (2 : Int32))) fun r3 =>
  cv_bd (fX4_heirOf r2 a1) fun r4 =>
  cv_bd (fX4_hang r4.2 r3 a1 r4.1) fun r5 =>
  cv_gd (0 ≤ (a1).toInt ∧ (a1).toInt < 100) <|
  cv_lt (sX4_sizes r5 (upd (gX4_sizes r5) (a1).toNatClampNeg (0 : Int32))) fun s7 =>
  cv_lt (sX4_number s7 ((gX4_number s7) - (1 : Int32))) fun s8 =>
  cv_bd (
    if (gX4_number s8) = 0 then
      (
      cv_lt (sX4_most s8 (0 : Int32)) fun s16 =>
      some s16
      )
    else
      (
      some s8
      )
  ) fun j9 =>
  cv_bd (fX4_isFew j9 (gX4_number j9)) fun r11 =>
  if r11 = 0 then
    (
    some ((0 : Int32), j9)
    )
  else
    (
    cv_lt (sX4_most j9 (gX4_number j9)) fun s13 =>
    cv_bd (fX4_buildAll s13) fun r14 =>
    some (r14.1, r14.2)
    )
abbrev rX4_drop : Room := { frames := 11, cells := 0, slots := 0, locals := 267 }
theorem iX4_drop_X4 : ∀ w ∈ u_ws RX4 TX4 12, w ∈ wsX4_drop := fun w h => List.mem_cons_of_mem _ (List.mem_append_right _ h)
set_option maxHeartbeats 4000000 in
set_option maxRecDepth 100000 in
theorem KX4_drop {l : Launch} {σ : Nat → Nat} {D : va_G} {cy : ClassId} (q : Nat → Nat) (S : SX4) (a1 : Int32) {res : Int32 × SX4} (hm : fX4_drop S a1 = some res) : cv_M l yX4_drop wsX4_drop rX4_drop σ D [(cy, .int)] [.ref (q 0), .int a1] (wX4 q cy S) (some (.int res.1)) (wX4 q cy res.2) := by
  unfold fX4_drop at hm
  refine cv_M.of (own := RX4) (by decide +kernel) rfl rfl (lv := [(0, .ref (q 0)), (1, .int a1)]) rfl (Nat.le_of_ble_eq_true rfl) ?_
  intro p e s m args below meth c A C hr hk
  refine cv_aload_n (i := 0) (q := 1) 0 C dX4_drop_0 rfl rfl rfl ?_
  refine cv_iload_n (i := 1) (q := 2) 1 C dX4_drop_1 rfl rfl rfl ?_
  obtain ⟨r1, hr1, hm⟩ := cv_bd_s hm
  refine cv_goW (q := 5) C (KX4_walk (l := l) (σ := σ) (D := D) (cy := cy)  q  S a1 hr1) (cv_rv (As := [.int a1]) (st := []) (n := 1) (q0 := 0) (ci := 4) C (KX4_walk (l := l) (σ := σ) (D := D) (cy := cy)  q  S a1 hr1) rfl rfl gX4_drop_X4_walk rfl ⟨rfl, rfl⟩ (by decide +kernel) rfl ⟨Nat.le_of_ble_eq_true rfl, Nat.le_of_ble_eq_true rfl⟩ rfl (Nat.le_of_ble_eq_true rfl) dX4_drop_2 ⟨Nat.zero_le _, Nat.zero_le _⟩) rfl ?_
  refine cv_istore_n (i := 2) (lv' := [(2, .int r1.1), (0, .ref (q 0)), (1, .int a1)]) (q := 6) C dX4_drop_5 rfl (by decide) rfl rfl ?_
  refine cv_aload_n (i := 0) (q := 7) 1 C dX4_drop_6 rfl rfl rfl ?_
  refine cv_iload_n (i := 2) (q := 8) 0 C dX4_drop_7 rfl rfl rfl ?_
  refine cv_iconst (v := -1) (q := 9) C dX4_drop_8 (by decide) rfl ?_
  obtain ⟨r2, hr2, hm⟩ := cv_bd_s hm
  refine cv_goW (q := 12) C (KX4_changeSizes (l := l) (σ := σ) (D := D) (cy := cy)  q  r1.2 r1.1 (-1 : Int32) hr2) (cv_rv (As := [.int r1.1, .int (-1 : Int32)]) (st := []) (n := 2) (q0 := 0) (ci := 4) C (KX4_changeSizes (l := l) (σ := σ) (D := D) (cy := cy)  q  r1.2 r1.1 (-1 : Int32) hr2) rfl rfl gX4_drop_X4_changeSizes rfl ⟨rfl, rfl⟩ (by decide +kernel) rfl ⟨Nat.le_of_ble_eq_true rfl, Nat.le_of_ble_eq_true rfl⟩ rfl (Nat.le_of_ble_eq_true rfl) dX4_drop_9 ⟨Nat.zero_le _, Nat.zero_le _⟩) rfl ?_
  refine cv_aload_n (i := 0) (q := 13) 1 C dX4_drop_12 rfl rfl rfl ?_
  refine cv_aload_n (i := 0) (q := 14) 1 C dX4_drop_13 rfl rfl rfl ?_
  refine cv_iload_n (i := 2) (q := 15) 0 C dX4_drop_14 rfl rfl rfl ?_
  refine cv_iconst (v := 2) (q := 16) C dX4_drop_15 (by decide) rfl ?_
  refine cv_isub (q := 17) C dX4_drop_16 rfl ?_
  obtain ⟨r3, hr3, hm⟩ := cv_bd_s hm
  refine cv_goW (q := 20) C (KX4_onWay (l := l) (σ := σ) (D := D) (cy := cy)  q  r2 (r1.1 - (2 : Int32)) hr3) (cv_rv (As := [.int (r1.1 - (2 : Int32))]) (st := [.ref (q 0)]) (n := 1) (q0 := 0) (ci := 4) C (KX4_onWay (l := l) (σ := σ) (D := D) (cy := cy)  q  r2 (r1.1 - (2 : Int32)) hr3) rfl rfl gX4_drop_X4_onWay rfl ⟨rfl, rfl⟩ (by decide +kernel) rfl ⟨Nat.le_of_ble_eq_true rfl, Nat.le_of_ble_eq_true rfl⟩ rfl (Nat.le_of_ble_eq_true rfl) dX4_drop_17 ⟨Nat.zero_le _, Nat.zero_le _⟩) rfl ?_
  refine cv_iload_n (i := 1) (q := 21) 2 C dX4_drop_20 rfl rfl rfl ?_
  refine cv_aload_n (i := 0) (q := 22) 1 C dX4_drop_21 rfl rfl rfl ?_
  refine cv_iload_n (i := 1) (q := 23) 2 C dX4_drop_22 rfl rfl rfl ?_
  obtain ⟨r4, hr4, hm⟩ := cv_bd_s hm
  refine cv_goW (q := 26) C (KX4_heirOf (l := l) (σ := σ) (D := D) (cy := cy)  q  r2 a1 hr4) (cv_rv (As := [.int a1]) (st := [.int a1, .int r3, .ref (q 0)]) (n := 1) (q0 := 0) (ci := 4) C (KX4_heirOf (l := l) (σ := σ) (D := D) (cy := cy)  q  r2 a1 hr4) rfl rfl gX4_drop_X4_heirOf rfl ⟨rfl, rfl⟩ (by decide +kernel) rfl ⟨Nat.le_of_ble_eq_true rfl, Nat.le_of_ble_eq_true rfl⟩ rfl (Nat.le_of_ble_eq_true rfl) dX4_drop_23 ⟨Nat.zero_le _, Nat.zero_le _⟩) rfl ?_
  obtain ⟨r5, hr5, hm⟩ := cv_bd_s hm
  refine cv_goW (q := 29) C (KX4_hang (l := l) (σ := σ) (D := D) (cy := cy)  q  r4.2 r3 a1 r4.1 hr5) (cv_rv (As := [.int r3, .int a1, .int r4.1]) (st := []) (n := 3) (q0 := 0) (ci := 4) C (KX4_hang (l := l) (σ := σ) (D := D) (cy := cy)  q  r4.2 r3 a1 r4.1 hr5) rfl rfl gX4_drop_X4_hang rfl ⟨rfl, rfl⟩ (by decide +kernel) rfl ⟨Nat.le_of_ble_eq_true rfl, Nat.le_of_ble_eq_true rfl⟩ rfl (Nat.le_of_ble_eq_true rfl) dX4_drop_26 ⟨Nat.zero_le _, Nat.zero_le _⟩) rfl ?_
  refine cv_aload_n (i := 0) (q := 30) 1 C dX4_drop_29 rfl rfl rfl ?_
  refine cv_get (q := 33) C iX4_drop_X4 0 rfl rfl 2 (by decide) (List.mem_of_getElem? (i := 1) rfl) rfl rfl dX4_drop_30 rfl ?_
  refine cv_iload_n (i := 1) (q := 34) 2 C dX4_drop_33 rfl rfl rfl ?_
  refine cv_iconst (v := 0) (q := 35) C dX4_drop_34 (by decide) rfl ?_
  obtain ⟨g6, hm⟩ := cv_gd_s hm
  obtain ⟨s7, es7, hm⟩ := cv_lt_s hm
  refine cv_iast (q := 36) (ws' := (wX4 q cy s7)) C 3 0 rfl rfl (vp_in_iff.mpr g6) dX4_drop_35 rfl (by rw [es7]; rfl) ?_
  refine cv_aload_n (i := 0) (q := 37) 1 C dX4_drop_36 rfl rfl rfl ?_
  refine cv_dup (q := 38) C dX4_drop_37 rfl rfl ?_
  refine cv_get (q := 41) C iX4_drop_X4 0 rfl rfl 8 (by decide) (List.mem_of_getElem? (i := 2) rfl) rfl rfl dX4_drop_38 rfl ?_
  refine cv_iconst (v := 1) (q := 42) C dX4_drop_41 (by decide) rfl ?_
  refine cv_isub (q := 43) C dX4_drop_42 rfl ?_
  obtain ⟨s8, es8, hm⟩ := cv_lt_s hm
  refine cv_put (q := 46) (ws' := (wX4 q cy s8)) C iX4_drop_X4 tyX4 tyX4_ok nmX4 0 rfl rfl 8 (by decide) (List.mem_of_getElem? (i := 2) rfl) rfl rfl rfl rfl rfl (Nat.le_of_ble_eq_true rfl) dX4_drop_43 rfl (by rw [es8]; rfl) ?_
  refine cv_aload_n (i := 0) (q := 47) 1 C dX4_drop_46 rfl rfl rfl ?_
  refine cv_get (q := 50) C iX4_drop_X4 0 rfl rfl 8 (by decide) (List.mem_of_getElem? (i := 2) rfl) rfl rfl dX4_drop_47 rfl ?_
  obtain ⟨j9, hj9, hm⟩ := cv_bd_s hm
  refine cv_cut (ws' := (wX4 q cy j9)) (pc' := 58) (lv' := [(0, .ref (q 0))]) (st' := []) ?_ (fun K10 => ?_)
  · refine cv_aload_n (i := 0) (q := 59) 0 C dX4_drop_58 rfl rfl rfl ?_
    refine cv_aload_n (i := 0) (q := 60) 0 C dX4_drop_59 rfl rfl rfl ?_
    refine cv_get (q := 63) C iX4_drop_X4 0 rfl rfl 8 (by decide) (List.mem_of_getElem? (i := 2) rfl) rfl rfl dX4_drop_60 rfl ?_
    obtain ⟨r11, hr11, hm⟩ := cv_bd_s hm
    refine cv_goW (q := 66) C (KX4_isFew (l := l) (σ := σ) (D := D) (cy := cy)  q  j9 (gX4_number j9) hr11) (cv_rv (As := [.int (gX4_number j9)]) (st := []) (n := 1) (q0 := 0) (ci := 4) C (KX4_isFew (l := l) (σ := σ) (D := D) (cy := cy)  q  j9 (gX4_number j9) hr11) rfl rfl gX4_drop_X4_isFew rfl ⟨rfl, rfl⟩ (by decide +kernel) rfl ⟨Nat.le_of_ble_eq_true rfl, Nat.le_of_ble_eq_true rfl⟩ rfl (Nat.le_of_ble_eq_true rfl) dX4_drop_63 ⟨Nat.zero_le _, Nat.zero_le _⟩) rfl ?_
    refine cv_if_ne (tgt := 71) (q := 69) C dX4_drop_66 (by decide) rfl (fun h12 => ?_) (fun h12 => ?_)
    · have hm := cv_if_f h12 hm
      refine cv_aload_n (i := 0) (q := 72) 0 C dX4_drop_71 rfl rfl rfl ?_
      refine cv_aload_n (i := 0) (q := 73) 0 C dX4_drop_72 rfl rfl rfl ?_
      refine cv_get (q := 76) C iX4_drop_X4 0 rfl rfl 8 (by decide) (List.mem_of_getElem? (i := 2) rfl) rfl rfl dX4_drop_73 rfl ?_
      obtain ⟨s13, es13, hm⟩ := cv_lt_s hm
      refine cv_put (q := 79) (ws' := (wX4 q cy s13)) C iX4_drop_X4 tyX4 tyX4_ok nmX4 0 rfl rfl 9 (by decide) (List.mem_of_getElem? (i := 3) rfl) rfl rfl rfl rfl rfl (Nat.le_of_ble_eq_true rfl) dX4_drop_76 rfl (by rw [es13]; rfl) ?_
      refine cv_aload_n (i := 0) (q := 80) 0 C dX4_drop_79 rfl rfl rfl ?_
      obtain ⟨r14, hr14, hm⟩ := cv_bd_s hm
      refine cv_goW (q := 83) C (KX4_buildAll (l := l) (σ := σ) (D := D) (cy := cy)  q  s13  hr14) (cv_rv (As := []) (st := []) (n := 0) (q0 := 0) (ci := 4) C (KX4_buildAll (l := l) (σ := σ) (D := D) (cy := cy)  q  s13  hr14) rfl rfl gX4_drop_X4_buildAll rfl ⟨rfl, rfl⟩ (by decide +kernel) rfl ⟨Nat.le_of_ble_eq_true rfl, Nat.le_of_ble_eq_true rfl⟩ rfl (Nat.le_of_ble_eq_true rfl) dX4_drop_80 ⟨Nat.zero_le _, Nat.zero_le _⟩) rfl ?_
      obtain rfl := Option.some.inj hm
      exact cv_iret C hr hk dX4_drop_83
    · have hm := cv_if_t h12 hm
      refine cv_iconst (v := 0) (q := 70) C dX4_drop_69 (by decide) rfl ?_
      obtain rfl := Option.some.inj hm
      exact cv_iret C hr hk dX4_drop_70
  · have hm := hj9
    refine cv_if_ne (tgt := 58) (q := 53) C dX4_drop_50 (by decide) rfl (fun h15 => ?_) (fun h15 => ?_)
    · have hm := cv_if_f h15 hm
      obtain rfl := Option.some.inj hm
      refine cv_sub [1] rfl ?_
      exact K10
    · have hm := cv_if_t h15 hm
      refine cv_aload_n (i := 0) (q := 54) 1 C dX4_drop_53 rfl rfl rfl ?_
      refine cv_iconst (v := 0) (q := 55) C dX4_drop_54 (by decide) rfl ?_
      obtain ⟨s16, es16, hm⟩ := cv_lt_s hm
      refine cv_put (q := 58) (ws' := (wX4 q cy s16)) C iX4_drop_X4 tyX4 tyX4_ok nmX4 0 rfl rfl 9 (by decide) (List.mem_of_getElem? (i := 3) rfl) rfl rfl rfl rfl rfl (Nat.le_of_ble_eq_true rfl) dX4_drop_55 rfl (by rw [es16]; rfl) ?_
      obtain rfl := Option.some.inj hm
      refine cv_sub [1] rfl ?_
      exact K10
def fX4_isFull (S : SX4) : Option (Int32) :=
  if (gX4_number S) < (40 : Int32) then
    (
    some (0 : Int32)
    )
  else
    (
    some (1 : Int32)
    )
abbrev rX4_isFull : Room := { frames := 0, cells := 0, slots := 0, locals := 0 }
theorem iX4_isFull_X4 : ∀ w ∈ u_ws RX4 TX4 12, w ∈ wsX4_isFull := fun w h => List.mem_cons_of_mem _ (List.mem_append_right _ h)
set_option maxHeartbeats 4000000 in
set_option maxRecDepth 100000 in
theorem KX4_isFull {l : Launch} {σ : Nat → Nat} {D : va_G} {cy : ClassId} (q : Nat → Nat) (S : SX4) {res : Int32} (hm : fX4_isFull S = some res) : cv_M l yX4_isFull wsX4_isFull rX4_isFull σ D [(cy, .int)] [.ref (q 0)] (wX4 q cy S) (some (.int res)) (wX4 q cy S) := by
  unfold fX4_isFull at hm
  refine cv_M.of (own := RX4) (by decide +kernel) rfl rfl (lv := [(0, .ref (q 0))]) rfl (Nat.le_of_ble_eq_true rfl) ?_
  intro p e s m args below meth c A C hr hk
  refine cv_aload_n (i := 0) (q := 1) 0 C dX4_isFull_0 rfl rfl rfl ?_
  refine cv_get (q := 4) C iX4_isFull_X4 0 rfl rfl 8 (by decide) (List.mem_of_getElem? (i := 1) rfl) rfl rfl dX4_isFull_1 rfl ?_
  refine cv_bipush (v := 40) (q := 6) C dX4_isFull_4 (by decide) rfl ?_
  refine cv_icmp_lt (tgt := 13) (q := 9) C dX4_isFull_6 (by decide) rfl (fun h1 => ?_) (fun h1 => ?_)
  · have hm := cv_if_t h1 hm
    refine cv_iconst (v := 0) (q := 14) C dX4_isFull_13 (by decide) rfl ?_
    obtain rfl := Option.some.inj hm
    exact cv_zret C hr hk (cv_bool (Or.inl rfl)) dX4_isFull_14
  · have hm := cv_if_f h1 hm
    refine cv_iconst (v := 1) (q := 10) C dX4_isFull_9 (by decide) rfl ?_
    refine cv_goto (tgt := 14) C dX4_isFull_10 (by decide) ?_
    obtain rfl := Option.some.inj hm
    exact cv_zret C hr hk (cv_bool (Or.inr rfl)) dX4_isFull_14
def fX4_above (S : SX4) (a1 : Int32) : Option (Int32 × SX4) :=
  cv_bd (fX4_walk S a1) fun r1 =>
  cv_bd (fX4_onWay r1.2 (r1.1 - (2 : Int32))) fun r2 =>
  some (r2, r1.2)
abbrev rX4_above : Room := { frames := 2, cells := 0, slots := 0, locals := 44 }
set_option maxHeartbeats 4000000 in
set_option maxRecDepth 100000 in
theorem KX4_above {l : Launch} {σ : Nat → Nat} {D : va_G} {cy : ClassId} (q : Nat → Nat) (S : SX4) (a1 : Int32) {res : Int32 × SX4} (hm : fX4_above S a1 = some res) : cv_M l yX4_above wsX4_above rX4_above σ D [(cy, .int)] [.ref (q 0), .int a1] (wX4 q cy S) (some (.int res.1)) (wX4 q cy res.2) := by
  unfold fX4_above at hm
  refine cv_M.of (own := RX4) (by decide +kernel) rfl rfl (lv := [(0, .ref (q 0)), (1, .int a1)]) rfl (Nat.le_of_ble_eq_true rfl) ?_
  intro p e s m args below meth c A C hr hk
  refine cv_aload_n (i := 0) (q := 1) 0 C dX4_above_0 rfl rfl rfl ?_
  refine cv_aload_n (i := 0) (q := 2) 0 C dX4_above_1 rfl rfl rfl ?_
  refine cv_iload_n (i := 1) (q := 3) 1 C dX4_above_2 rfl rfl rfl ?_
  obtain ⟨r1, hr1, hm⟩ := cv_bd_s hm
  refine cv_goW (q := 6) C (KX4_walk (l := l) (σ := σ) (D := D) (cy := cy)  q  S a1 hr1) (cv_rv (As := [.int a1]) (st := [.ref (q 0)]) (n := 1) (q0 := 0) (ci := 4) C (KX4_walk (l := l) (σ := σ) (D := D) (cy := cy)  q  S a1 hr1) rfl rfl gX4_above_X4_walk rfl ⟨rfl, rfl⟩ (by decide +kernel) rfl ⟨Nat.le_of_ble_eq_true rfl, Nat.le_of_ble_eq_true rfl⟩ rfl (Nat.le_of_ble_eq_true rfl) dX4_above_3 ⟨Nat.zero_le _, Nat.zero_le _⟩) rfl ?_
  refine cv_iconst (v := 2) (q := 7) C dX4_above_6 (by decide) rfl ?_
  refine cv_isub (q := 8) C dX4_above_7 rfl ?_
  obtain ⟨r2, hr2, hm⟩ := cv_bd_s hm
  refine cv_goW (q := 11) C (KX4_onWay (l := l) (σ := σ) (D := D) (cy := cy)  q  r1.2 (r1.1 - (2 : Int32)) hr2) (cv_rv (As := [.int (r1.1 - (2 : Int32))]) (st := []) (n := 1) (q0 := 0) (ci := 4) C (KX4_onWay (l := l) (σ := σ) (D := D) (cy := cy)  q  r1.2 (r1.1 - (2 : Int32)) hr2) rfl rfl gX4_above_X4_onWay rfl ⟨rfl, rfl⟩ (by decide +kernel) rfl ⟨Nat.le_of_ble_eq_true rfl, Nat.le_of_ble_eq_true rfl⟩ rfl (Nat.le_of_ble_eq_true rfl) dX4_above_8 ⟨Nat.zero_le _, Nat.zero_le _⟩) rfl ?_
  obtain rfl := Option.some.inj hm
  exact cv_iret C hr hk dX4_above_11
def fX4_lesser_L4 (S : SX4) (u1 : Int32) : Nat → Int32 → Int32 → Option (Int32)
  | 0, _, _ => none
  | n + 1, y2, y3 =>
    if u1 ≤ y3 then
      (
      some y2
      )
    else
      (
      if (100 : Int32) ≤ y3 then
        (
        some y2
        )
      else
        (
        cv_bd (fX4_has S y3) fun r3 =>
        cv_bd (
          if r3 = 0 then
            (
            some y2
            )
          else
            (
            cv_lt (y2 + (1 : Int32)) fun x8 =>
            some x8
            )
        ) fun j4 =>
        cv_lt (y3 + (1 : Int32)) fun x6 =>
        fX4_lesser_L4 S u1 n j4 x6
        )
      )
def fX4_lesser (S : SX4) (a1 : Int32) : Option (Int32) :=
  cv_bd (fX4_lesser_L4 S a1 256 (0 : Int32) (0 : Int32)) fun j9 =>
  some j9
abbrev rX4_lesser : Room := { frames := 1, cells := 0, slots := 0, locals := 21 }
set_option maxHeartbeats 4000000 in
set_option maxRecDepth 100000 in
theorem vX4_lesser_L4 {p : Program} {l : Launch} {e : Env} {s : State} {m : MethodId} {args : Array Value} {below : List Frame} {meth : Method} {c : Code} {σ : Nat → Nat} {D : va_G} {A : Nat → Prop} {cy : ClassId} (q : Nat → Nat) (S : SX4) (u1 : Int32) (C : cv_C p s m args c cX4_lesser 4 RX4 wsX4_lesser σ D [(cy, .int)] A) {Q : State → Prop} {j : Int32} : ∀ (n : Nat) (y2 : Int32) (y3 : Int32), fX4_lesser_L4 S u1 n y2 y3 = some j → cv_V p l e rX4_lesser s m args below meth c 4 D A Q 0 0 (wX4 q cy S) 32 [(2, .int j)] [] → cv_V p l e rX4_lesser s m args below meth c 4 D A Q 0 0 (wX4 q cy S) 4 [(0, .ref (q 0)), (1, .int u1), (2, .int y2), (3, .int y3)] [] := by
  intro n
  induction n with
  | zero => intro y2 y3 hm kx; cases hm
  | succ n ih =>
    intro y2 y3 hm kx
    have hm : fX4_lesser_L4 S u1 (n + 1) y2 y3 = some j := hm
    unfold fX4_lesser_L4 at hm
    refine cv_iload_n (i := 3) (q := 5) 3 C dX4_lesser_4 rfl rfl rfl ?_
    refine cv_iload_n (i := 1) (q := 6) 1 C dX4_lesser_5 rfl rfl rfl ?_
    refine cv_icmp_ge (tgt := 32) (q := 9) C dX4_lesser_6 (by decide) rfl (fun h1 => ?_) (fun h1 => ?_)
    · have hm := cv_if_t h1 hm
      obtain rfl := Option.some.inj hm
      refine cv_sub [2] rfl ?_
      exact kx
    · have hm := cv_if_f h1 hm
      refine cv_iload_n (i := 3) (q := 10) 3 C dX4_lesser_9 rfl rfl rfl ?_
      refine cv_bipush (v := 100) (q := 12) C dX4_lesser_10 (by decide) rfl ?_
      refine cv_icmp_ge (tgt := 32) (q := 15) C dX4_lesser_12 (by decide) rfl (fun h2 => ?_) (fun h2 => ?_)
      · have hm := cv_if_t h2 hm
        obtain rfl := Option.some.inj hm
        refine cv_sub [2] rfl ?_
        exact kx
      · have hm := cv_if_f h2 hm
        refine cv_aload_n (i := 0) (q := 16) 0 C dX4_lesser_15 rfl rfl rfl ?_
        refine cv_iload_n (i := 3) (q := 17) 3 C dX4_lesser_16 rfl rfl rfl ?_
        obtain ⟨r3, hr3, hm⟩ := cv_bd_s hm
        refine cv_goW (q := 20) C (KX4_has (l := l) (σ := σ) (D := D) (cy := cy)  q  S y3 hr3) (cv_rv (As := [.int y3]) (st := []) (n := 1) (q0 := 0) (ci := 4) C (KX4_has (l := l) (σ := σ) (D := D) (cy := cy)  q  S y3 hr3) rfl rfl gX4_lesser_X4_has rfl ⟨rfl, rfl⟩ (by decide +kernel) rfl ⟨Nat.le_of_ble_eq_true rfl, Nat.le_of_ble_eq_true rfl⟩ rfl (Nat.le_of_ble_eq_true rfl) dX4_lesser_17 ⟨Nat.zero_le _, Nat.zero_le _⟩) rfl ?_
        obtain ⟨j4, hj4, hm⟩ := cv_bd_s hm
        refine cv_cut (ws' := (wX4 q cy S)) (pc' := 26) (lv' := [(0, .ref (q 0)), (1, .int u1), (2, .int j4), (3, .int y3)]) (st' := []) ?_ (fun K5 => ?_)
        · obtain ⟨x6, ex6, hm⟩ := cv_lt_s hm
          refine cv_iinc (v := x6) (lv' := [(3, .int x6), (0, .ref (q 0)), (1, .int u1), (2, .int j4)]) (q := 29) 3 C dX4_lesser_26 rfl (by rw [ex6]; rfl) (by decide) rfl rfl ?_
          refine cv_goto (tgt := 4) C dX4_lesser_29 (by decide) ?_
          refine cv_sub [1, 2, 3, 0] rfl ?_
          exact ih j4 x6 hm kx
        · have hm := hj4
          refine cv_if_eq (tgt := 26) (q := 23) C dX4_lesser_20 (by decide) rfl (fun h7 => ?_) (fun h7 => ?_)
          · have hm := cv_if_t h7 hm
            obtain rfl := Option.some.inj hm
            exact K5
          · have hm := cv_if_f h7 hm
            obtain ⟨x8, ex8, hm⟩ := cv_lt_s hm
            refine cv_iinc (v := x8) (lv' := [(2, .int x8), (0, .ref (q 0)), (1, .int u1), (3, .int y3)]) (q := 26) 2 C dX4_lesser_23 rfl (by rw [ex8]; rfl) (by decide) rfl rfl ?_
            obtain rfl := Option.some.inj hm
            refine cv_sub [1, 2, 0, 3] rfl ?_
            exact K5
set_option maxHeartbeats 4000000 in
set_option maxRecDepth 100000 in
theorem KX4_lesser {l : Launch} {σ : Nat → Nat} {D : va_G} {cy : ClassId} (q : Nat → Nat) (S : SX4) (a1 : Int32) {res : Int32} (hm : fX4_lesser S a1 = some res) : cv_M l yX4_lesser wsX4_lesser rX4_lesser σ D [(cy, .int)] [.ref (q 0), .int a1] (wX4 q cy S) (some (.int res)) (wX4 q cy S) := by
  unfold fX4_lesser at hm
  refine cv_M.of (own := RX4) (by decide +kernel) rfl rfl (lv := [(0, .ref (q 0)), (1, .int a1)]) rfl (Nat.le_of_ble_eq_true rfl) ?_
  intro p e s m args below meth c A C hr hk
  refine cv_iconst (v := 0) (q := 1) C dX4_lesser_0 (by decide) rfl ?_
  refine cv_istore_n (i := 2) (lv' := [(2, .int (0 : Int32)), (0, .ref (q 0)), (1, .int a1)]) (q := 2) C dX4_lesser_1 rfl (by decide) rfl rfl ?_
  refine cv_iconst (v := 0) (q := 3) C dX4_lesser_2 (by decide) rfl ?_
  refine cv_istore_n (i := 3) (lv' := [(3, .int (0 : Int32)), (2, .int (0 : Int32)), (0, .ref (q 0)), (1, .int a1)]) (q := 4) C dX4_lesser_3 rfl (by decide) rfl rfl ?_
  obtain ⟨j9, hj9, hm⟩ := cv_bd_s hm
  refine cv_cut (ws' := (wX4 q cy S)) (pc' := 32) (lv' := [(2, .int j9)]) (st' := []) ?_ (fun K10 => ?_)
  · refine cv_iload_n (i := 2) (q := 33) 0 C dX4_lesser_32 rfl rfl rfl ?_
    obtain rfl := Option.some.inj hm
    exact cv_iret C hr hk dX4_lesser_33
  · refine cv_sub [2, 3, 1, 0] rfl ?_
    exact vX4_lesser_L4 q S a1 C 256 (0 : Int32) (0 : Int32) hj9 K10
def fX4_tall_L4  : Nat → Int32 → Int32 → SX4 → Option (Int32 × SX4)
  | 0, _, _, _ => none
  | n + 1, y1, y2, S =>
    if (100 : Int32) ≤ y2 then
      (
      some (y1, S)
      )
    else
      (
      cv_bd (fX4_has S y2) fun r2 =>
      cv_bd (
        if r2 = 0 then
          (
          some (y1, S)
          )
        else
          (
          cv_bd (fX4_walk S y2) fun r7 =>
          cv_lt ((cv_max y1 (r7.1 - (1 : Int32)))) fun x8 =>
          some (x8, r7.2)
          )
      ) fun j3 =>
      cv_lt (y2 + (1 : Int32)) fun x5 =>
      fX4_tall_L4 n j3.1 x5 j3.2
      )
def fX4_tall (S : SX4) : Option (Int32 × SX4) :=
  cv_bd (fX4_tall_L4 256 (-1 : Int32) (0 : Int32) S) fun j9 =>
  some (j9.1, j9.2)
abbrev rX4_tall : Room := { frames := 2, cells := 0, slots := 0, locals := 44 }
set_option maxHeartbeats 4000000 in
set_option maxRecDepth 100000 in
theorem vX4_tall_L4 {p : Program} {l : Launch} {e : Env} {s : State} {m : MethodId} {args : Array Value} {below : List Frame} {meth : Method} {c : Code} {σ : Nat → Nat} {D : va_G} {A : Nat → Prop} {cy : ClassId} (q : Nat → Nat) (C : cv_C p s m args c cX4_tall 3 RX4 wsX4_tall σ D [(cy, .int)] A) {Q : State → Prop} {j : Int32 × SX4} : ∀ (n : Nat) (y1 : Int32) (y2 : Int32) (S : SX4), fX4_tall_L4 n y1 y2 S = some j → cv_V p l e rX4_tall s m args below meth c 3 D A Q 0 0 (wX4 q cy j.2) 36 [(1, .int j.1)] [] → cv_V p l e rX4_tall s m args below meth c 3 D A Q 0 0 (wX4 q cy S) 4 [(0, .ref (q 0)), (1, .int y1), (2, .int y2)] [] := by
  intro n
  induction n with
  | zero => intro y1 y2 S hm kx; cases hm
  | succ n ih =>
    intro y1 y2 S hm kx
    have hm : fX4_tall_L4 (n + 1) y1 y2 S = some j := hm
    unfold fX4_tall_L4 at hm
    refine cv_iload_n (i := 2) (q := 5) 2 C dX4_tall_4 rfl rfl rfl ?_
    refine cv_bipush (v := 100) (q := 7) C dX4_tall_5 (by decide) rfl ?_
    refine cv_icmp_ge (tgt := 36) (q := 10) C dX4_tall_7 (by decide) rfl (fun h1 => ?_) (fun h1 => ?_)
    · have hm := cv_if_t h1 hm
      obtain rfl := Option.some.inj hm
      refine cv_sub [1] rfl ?_
      exact kx
    · have hm := cv_if_f h1 hm
      refine cv_aload_n (i := 0) (q := 11) 0 C dX4_tall_10 rfl rfl rfl ?_
      refine cv_iload_n (i := 2) (q := 12) 2 C dX4_tall_11 rfl rfl rfl ?_
      obtain ⟨r2, hr2, hm⟩ := cv_bd_s hm
      refine cv_goW (q := 15) C (KX4_has (l := l) (σ := σ) (D := D) (cy := cy)  q  S y2 hr2) (cv_rv (As := [.int y2]) (st := []) (n := 1) (q0 := 0) (ci := 4) C (KX4_has (l := l) (σ := σ) (D := D) (cy := cy)  q  S y2 hr2) rfl rfl gX4_tall_X4_has rfl ⟨rfl, rfl⟩ (by decide +kernel) rfl ⟨Nat.le_of_ble_eq_true rfl, Nat.le_of_ble_eq_true rfl⟩ rfl (Nat.le_of_ble_eq_true rfl) dX4_tall_12 ⟨Nat.zero_le _, Nat.zero_le _⟩) rfl ?_
      obtain ⟨j3, hj3, hm⟩ := cv_bd_s hm
      refine cv_cut (ws' := (wX4 q cy j3.2)) (pc' := 30) (lv' := [(0, .ref (q 0)), (1, .int j3.1), (2, .int y2)]) (st' := []) ?_ (fun K4 => ?_)
      · obtain ⟨x5, ex5, hm⟩ := cv_lt_s hm
        refine cv_iinc (v := x5) (lv' := [(2, .int x5), (0, .ref (q 0)), (1, .int j3.1)]) (q := 33) 2 C dX4_tall_30 rfl (by rw [ex5]; rfl) (by decide) rfl rfl ?_
        refine cv_goto (tgt := 4) C dX4_tall_33 (by decide) ?_
        refine cv_sub [1, 2, 0] rfl ?_
        exact ih j3.1 x5 j3.2 hm kx
      · have hm := hj3
        refine cv_if_eq (tgt := 30) (q := 18) C dX4_tall_15 (by decide) rfl (fun h6 => ?_) (fun h6 => ?_)
        · have hm := cv_if_t h6 hm
          obtain rfl := Option.some.inj hm
          exact K4
        · have hm := cv_if_f h6 hm
          refine cv_iload_n (i := 1) (q := 19) 1 C dX4_tall_18 rfl rfl rfl ?_
          refine cv_aload_n (i := 0) (q := 20) 0 C dX4_tall_19 rfl rfl rfl ?_
          refine cv_iload_n (i := 2) (q := 21) 2 C dX4_tall_20 rfl rfl rfl ?_
          obtain ⟨r7, hr7, hm⟩ := cv_bd_s hm
          refine cv_goW (q := 24) C (KX4_walk (l := l) (σ := σ) (D := D) (cy := cy)  q  S y2 hr7) (cv_rv (As := [.int y2]) (st := [.int y1]) (n := 1) (q0 := 0) (ci := 4) C (KX4_walk (l := l) (σ := σ) (D := D) (cy := cy)  q  S y2 hr7) rfl rfl gX4_tall_X4_walk rfl ⟨rfl, rfl⟩ (by decide +kernel) rfl ⟨Nat.le_of_ble_eq_true rfl, Nat.le_of_ble_eq_true rfl⟩ rfl (Nat.le_of_ble_eq_true rfl) dX4_tall_21 ⟨Nat.zero_le _, Nat.zero_le _⟩) rfl ?_
          refine cv_iconst (v := 1) (q := 25) C dX4_tall_24 (by decide) rfl ?_
          refine cv_isub (q := 26) C dX4_tall_25 rfl ?_
          refine cv_mmax (q := 29) C (List.mem_of_getElem? (i := 1) rfl) (List.mem_of_getElem? (i := 2) rfl) (List.mem_of_getElem? (i := 3) rfl) (List.mem_of_getElem? (i := 4) rfl) (Nat.le_of_ble_eq_true rfl) (Nat.le_of_ble_eq_true rfl) dX4_tall_26 rfl (Nat.zero_le _) (Nat.zero_le _) ?_
          obtain ⟨x8, ex8, hm⟩ := cv_lt_s hm
          refine cv_topi ex8 ?_
          refine cv_istore_n (i := 1) (lv' := [(1, .int x8), (0, .ref (q 0)), (2, .int y2)]) (q := 30) C dX4_tall_29 rfl (by decide) rfl rfl ?_
          obtain rfl := Option.some.inj hm
          refine cv_sub [1, 0, 2] rfl ?_
          exact K4
set_option maxHeartbeats 4000000 in
set_option maxRecDepth 100000 in
theorem KX4_tall {l : Launch} {σ : Nat → Nat} {D : va_G} {cy : ClassId} (q : Nat → Nat) (S : SX4) {res : Int32 × SX4} (hm : fX4_tall S = some res) : cv_M l yX4_tall wsX4_tall rX4_tall σ D [(cy, .int)] [.ref (q 0)] (wX4 q cy S) (some (.int res.1)) (wX4 q cy res.2) := by
  unfold fX4_tall at hm
  refine cv_M.of (own := RX4) (by decide +kernel) rfl rfl (lv := [(0, .ref (q 0))]) rfl (Nat.le_of_ble_eq_true rfl) ?_
  intro p e s m args below meth c A C hr hk
  refine cv_iconst (v := -1) (q := 1) C dX4_tall_0 (by decide) rfl ?_
  refine cv_istore_n (i := 1) (lv' := [(1, .int (-1 : Int32)), (0, .ref (q 0))]) (q := 2) C dX4_tall_1 rfl (by decide) rfl rfl ?_
  refine cv_iconst (v := 0) (q := 3) C dX4_tall_2 (by decide) rfl ?_
  refine cv_istore_n (i := 2) (lv' := [(2, .int (0 : Int32)), (1, .int (-1 : Int32)), (0, .ref (q 0))]) (q := 4) C dX4_tall_3 rfl (by decide) rfl rfl ?_
  obtain ⟨j9, hj9, hm⟩ := cv_bd_s hm
  refine cv_cut (ws' := (wX4 q cy j9.2)) (pc' := 36) (lv' := [(1, .int j9.1)]) (st' := []) ?_ (fun K10 => ?_)
  · refine cv_iload_n (i := 1) (q := 37) 0 C dX4_tall_36 rfl rfl rfl ?_
    obtain rfl := Option.some.inj hm
    exact cv_iret C hr hk dX4_tall_37
  · refine cv_sub [2, 1, 0] rfl ?_
    exact vX4_tall_L4 q  C 256 (-1 : Int32) (0 : Int32) S hj9 K10
def fX4_turn (S : SX4) (a1 : Int32) : Option (SX4) :=
  cv_bd (fX4_has S a1) fun r1 =>
  if r1 = 0 then
    (
    cv_bd (fX4_isFull S) fun r3 =>
    if r3 = 0 then
      (
      cv_bd (fX4_add S a1) fun r5 =>
      some r5.2
      )
    else
      (
      some S
      )
    )
  else
    (
    cv_bd (fX4_drop S a1) fun r6 =>
    some r6.2
    )
abbrev rX4_turn : Room := { frames := 12, cells := 0, slots := 0, locals := 289 }
set_option maxHeartbeats 4000000 in
set_option maxRecDepth 100000 in
theorem KX4_turn {l : Launch} {σ : Nat → Nat} {D : va_G} {cy : ClassId} (q : Nat → Nat) (S : SX4) (a1 : Int32) {res : SX4} (hm : fX4_turn S a1 = some res) : cv_M l yX4_turn wsX4_turn rX4_turn σ D [(cy, .int)] [.ref (q 0), .int a1] (wX4 q cy S) none (wX4 q cy res) := by
  unfold fX4_turn at hm
  refine cv_M.of (own := RX4) (by decide +kernel) rfl rfl (lv := [(0, .ref (q 0)), (1, .int a1)]) rfl (Nat.le_of_ble_eq_true rfl) ?_
  intro p e s m args below meth c A C hr hk
  refine cv_aload_n (i := 0) (q := 1) 0 C dX4_turn_0 rfl rfl rfl ?_
  refine cv_iload_n (i := 1) (q := 2) 1 C dX4_turn_1 rfl rfl rfl ?_
  obtain ⟨r1, hr1, hm⟩ := cv_bd_s hm
  refine cv_goW (q := 5) C (KX4_has (l := l) (σ := σ) (D := D) (cy := cy)  q  S a1 hr1) (cv_rv (As := [.int a1]) (st := []) (n := 1) (q0 := 0) (ci := 4) C (KX4_has (l := l) (σ := σ) (D := D) (cy := cy)  q  S a1 hr1) rfl rfl gX4_turn_X4_has rfl ⟨rfl, rfl⟩ (by decide +kernel) rfl ⟨Nat.le_of_ble_eq_true rfl, Nat.le_of_ble_eq_true rfl⟩ rfl (Nat.le_of_ble_eq_true rfl) dX4_turn_2 ⟨Nat.zero_le _, Nat.zero_le _⟩) rfl ?_
  refine cv_if_eq (tgt := 17) (q := 8) C dX4_turn_5 (by decide) rfl (fun h2 => ?_) (fun h2 => ?_)
  · have hm := cv_if_t h2 hm
    refine cv_aload_n (i := 0) (q := 18) 0 C dX4_turn_17 rfl rfl rfl ?_
    obtain ⟨r3, hr3, hm⟩ := cv_bd_s hm
    refine cv_goW (q := 21) C (KX4_isFull (l := l) (σ := σ) (D := D) (cy := cy)  q  S  hr3) (cv_rv (As := []) (st := []) (n := 0) (q0 := 0) (ci := 4) C (KX4_isFull (l := l) (σ := σ) (D := D) (cy := cy)  q  S  hr3) rfl rfl gX4_turn_X4_isFull rfl ⟨rfl, rfl⟩ (by decide +kernel) rfl ⟨Nat.le_of_ble_eq_true rfl, Nat.le_of_ble_eq_true rfl⟩ rfl (Nat.le_of_ble_eq_true rfl) dX4_turn_18 ⟨Nat.zero_le _, Nat.zero_le _⟩) rfl ?_
    refine cv_if_ne (tgt := 30) (q := 24) C dX4_turn_21 (by decide) rfl (fun h4 => ?_) (fun h4 => ?_)
    · have hm := cv_if_f h4 hm
      obtain rfl := Option.some.inj hm
      exact cv_vret C hr hk dX4_turn_30
    · have hm := cv_if_t h4 hm
      refine cv_aload_n (i := 0) (q := 25) 0 C dX4_turn_24 rfl rfl rfl ?_
      refine cv_iload_n (i := 1) (q := 26) 1 C dX4_turn_25 rfl rfl rfl ?_
      obtain ⟨r5, hr5, hm⟩ := cv_bd_s hm
      refine cv_goW (q := 29) C (KX4_add (l := l) (σ := σ) (D := D) (cy := cy)  q  S a1 hr5) (cv_rv (As := [.int a1]) (st := []) (n := 1) (q0 := 0) (ci := 4) C (KX4_add (l := l) (σ := σ) (D := D) (cy := cy)  q  S a1 hr5) rfl rfl gX4_turn_X4_add rfl ⟨rfl, rfl⟩ (by decide +kernel) rfl ⟨Nat.le_of_ble_eq_true rfl, Nat.le_of_ble_eq_true rfl⟩ rfl (Nat.le_of_ble_eq_true rfl) dX4_turn_26 ⟨Nat.zero_le _, Nat.zero_le _⟩) rfl ?_
      refine cv_pop (q := 30) C dX4_turn_29 rfl rfl ?_
      obtain rfl := Option.some.inj hm
      exact cv_vret C hr hk dX4_turn_30
  · have hm := cv_if_f h2 hm
    refine cv_aload_n (i := 0) (q := 9) 0 C dX4_turn_8 rfl rfl rfl ?_
    refine cv_iload_n (i := 1) (q := 10) 1 C dX4_turn_9 rfl rfl rfl ?_
    obtain ⟨r6, hr6, hm⟩ := cv_bd_s hm
    refine cv_goW (q := 13) C (KX4_drop (l := l) (σ := σ) (D := D) (cy := cy)  q  S a1 hr6) (cv_rv (As := [.int a1]) (st := []) (n := 1) (q0 := 0) (ci := 4) C (KX4_drop (l := l) (σ := σ) (D := D) (cy := cy)  q  S a1 hr6) rfl rfl gX4_turn_X4_drop rfl ⟨rfl, rfl⟩ (by decide +kernel) rfl ⟨Nat.le_of_ble_eq_true rfl, Nat.le_of_ble_eq_true rfl⟩ rfl (Nat.le_of_ble_eq_true rfl) dX4_turn_10 ⟨Nat.zero_le _, Nat.zero_le _⟩) rfl ?_
    refine cv_pop (q := 14) C dX4_turn_13 rfl rfl ?_
    refine cv_goto (tgt := 30) C dX4_turn_14 (by decide) ?_
    obtain rfl := Option.some.inj hm
    exact cv_vret C hr hk dX4_turn_30
def fX4_wouldBuild (S : SX4) (a1 : Int32) : Option (Int32 × SX4) :=
  cv_bd (fX4_walk S a1) fun r1 =>
  cv_bd (fX4_heavyPlace r1.2 r1.1) fun r2 =>
  if r2 = (-1 : Int32) then
    (
    some ((0 : Int32), r1.2)
    )
  else
    (
    cv_gd (0 ≤ (r2).toInt ∧ (r2).toInt < 40) <|
    cv_gd (0 ≤ (((gX4_way r1.2) (r2).toNatClampNeg)).toInt ∧ (((gX4_way r1.2) (r2).toNatClampNeg)).toInt < 100) <|
    some ((((gX4_sizes r1.2) (((gX4_way r1.2) (r2).toNatClampNeg)).toNatClampNeg) + (1 : Int32)), r1.2)
    )
abbrev rX4_wouldBuild : Room := { frames := 2, cells := 0, slots := 0, locals := 51 }
theorem iX4_wouldBuild_X4 : ∀ w ∈ u_ws RX4 TX4 12, w ∈ wsX4_wouldBuild := fun w h => List.mem_cons_of_mem _ (List.mem_append_right _ h)
set_option maxHeartbeats 4000000 in
set_option maxRecDepth 100000 in
theorem KX4_wouldBuild {l : Launch} {σ : Nat → Nat} {D : va_G} {cy : ClassId} (q : Nat → Nat) (S : SX4) (a1 : Int32) {res : Int32 × SX4} (hm : fX4_wouldBuild S a1 = some res) : cv_M l yX4_wouldBuild wsX4_wouldBuild rX4_wouldBuild σ D [(cy, .int)] [.ref (q 0), .int a1] (wX4 q cy S) (some (.int res.1)) (wX4 q cy res.2) := by
  unfold fX4_wouldBuild at hm
  refine cv_M.of (own := RX4) (by decide +kernel) rfl rfl (lv := [(0, .ref (q 0)), (1, .int a1)]) rfl (Nat.le_of_ble_eq_true rfl) ?_
  intro p e s m args below meth c A C hr hk
  refine cv_aload_n (i := 0) (q := 1) 0 C dX4_wouldBuild_0 rfl rfl rfl ?_
  refine cv_aload_n (i := 0) (q := 2) 0 C dX4_wouldBuild_1 rfl rfl rfl ?_
  refine cv_iload_n (i := 1) (q := 3) 1 C dX4_wouldBuild_2 rfl rfl rfl ?_
  obtain ⟨r1, hr1, hm⟩ := cv_bd_s hm
  refine cv_goW (q := 6) C (KX4_walk (l := l) (σ := σ) (D := D) (cy := cy)  q  S a1 hr1) (cv_rv (As := [.int a1]) (st := [.ref (q 0)]) (n := 1) (q0 := 0) (ci := 4) C (KX4_walk (l := l) (σ := σ) (D := D) (cy := cy)  q  S a1 hr1) rfl rfl gX4_wouldBuild_X4_walk rfl ⟨rfl, rfl⟩ (by decide +kernel) rfl ⟨Nat.le_of_ble_eq_true rfl, Nat.le_of_ble_eq_true rfl⟩ rfl (Nat.le_of_ble_eq_true rfl) dX4_wouldBuild_3 ⟨Nat.zero_le _, Nat.zero_le _⟩) rfl ?_
  obtain ⟨r2, hr2, hm⟩ := cv_bd_s hm
  refine cv_goW (q := 9) C (KX4_heavyPlace (l := l) (σ := σ) (D := D) (cy := cy)  q  r1.2 r1.1 hr2) (cv_rv (As := [.int r1.1]) (st := []) (n := 1) (q0 := 0) (ci := 4) C (KX4_heavyPlace (l := l) (σ := σ) (D := D) (cy := cy)  q  r1.2 r1.1 hr2) rfl rfl gX4_wouldBuild_X4_heavyPlace rfl ⟨rfl, rfl⟩ (by decide +kernel) rfl ⟨Nat.le_of_ble_eq_true rfl, Nat.le_of_ble_eq_true rfl⟩ rfl (Nat.le_of_ble_eq_true rfl) dX4_wouldBuild_6 ⟨Nat.zero_le _, Nat.zero_le _⟩) rfl ?_
  refine cv_istore_n (i := 2) (lv' := [(2, .int r2), (0, .ref (q 0)), (1, .int a1)]) (q := 10) C dX4_wouldBuild_9 rfl (by decide) rfl rfl ?_
  refine cv_iload_n (i := 2) (q := 11) 0 C dX4_wouldBuild_10 rfl rfl rfl ?_
  refine cv_iconst (v := -1) (q := 12) C dX4_wouldBuild_11 (by decide) rfl ?_
  refine cv_icmp_ne (tgt := 19) (q := 15) C dX4_wouldBuild_12 (by decide) rfl (fun h3 => ?_) (fun h3 => ?_)
  · have hm := cv_if_f h3 hm
    refine cv_aload_n (i := 0) (q := 20) 1 C dX4_wouldBuild_19 rfl rfl rfl ?_
    refine cv_get (q := 23) C iX4_wouldBuild_X4 0 rfl rfl 2 (by decide) (List.mem_of_getElem? (i := 1) rfl) rfl rfl dX4_wouldBuild_20 rfl ?_
    refine cv_aload_n (i := 0) (q := 24) 1 C dX4_wouldBuild_23 rfl rfl rfl ?_
    refine cv_get (q := 27) C iX4_wouldBuild_X4 0 rfl rfl 3 (by decide) (List.mem_of_getElem? (i := 2) rfl) rfl rfl dX4_wouldBuild_24 rfl ?_
    refine cv_iload_n (i := 2) (q := 28) 0 C dX4_wouldBuild_27 rfl rfl rfl ?_
    obtain ⟨g4, hm⟩ := cv_gd_s hm
    refine cv_iald (q := 29) C 4 0 rfl rfl (vp_in_iff.mpr g4) dX4_wouldBuild_28 rfl ?_
    obtain ⟨g5, hm⟩ := cv_gd_s hm
    refine cv_iald (q := 30) C 3 0 rfl rfl (vp_in_iff.mpr g5) dX4_wouldBuild_29 rfl ?_
    refine cv_iconst (v := 1) (q := 31) C dX4_wouldBuild_30 (by decide) rfl ?_
    refine cv_iadd (q := 32) C dX4_wouldBuild_31 rfl ?_
    obtain rfl := Option.some.inj hm
    exact cv_iret C hr hk dX4_wouldBuild_32
  · have hm := cv_if_t h3 hm
    refine cv_iconst (v := 0) (q := 16) C dX4_wouldBuild_15 (by decide) rfl ?_
    refine cv_goto (tgt := 32) C dX4_wouldBuild_16 (by decide) ?_
    obtain rfl := Option.some.inj hm
    exact cv_iret C hr hk dX4_wouldBuild_32
