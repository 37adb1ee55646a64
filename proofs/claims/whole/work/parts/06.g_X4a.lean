def fX4_begin (S : SX4) (a1 : Int32) (a2 : Int32) : Option (SX4) :=
  cv_bd (fJ7_fill_53178 100 (gX4_sizes S) (0 : Int32)) fun r1 =>
  cv_lt (sX4_sizes S r1) fun s2 =>
  cv_lt (sX4_root s2 (-1 : Int32)) fun s3 =>
  cv_lt (sX4_a s3 a1) fun s4 =>
  cv_lt (sX4_b s4 a2) fun s5 =>
  cv_lt (sX4_number s5 (0 : Int32)) fun s6 =>
  cv_lt (sX4_most s6 (0 : Int32)) fun s7 =>
  cv_lt (sX4_buildings s7 (0 : Int32)) fun s8 =>
  cv_lt (sX4_cost s8 (0 : Int32)) fun s9 =>
  some s9
abbrev rX4_begin : Room := { frames := 1, cells := 0, slots := 0, locals := 23 }
theorem iX4_begin_X4 : ∀ w ∈ u_ws RX4 TX4 12, w ∈ wsX4_begin := fun w h => List.mem_cons_of_mem _ (List.mem_append_right _ h)
set_option maxHeartbeats 4000000 in
set_option maxRecDepth 100000 in
theorem KX4_begin {l : Launch} {σ : Nat → Nat} {D : va_G} {cy : ClassId} (q : Nat → Nat) (S : SX4) (a1 : Int32) (a2 : Int32) {res : SX4} (hm : fX4_begin S a1 a2 = some res) : cv_M l yX4_begin wsX4_begin rX4_begin σ D [(cy, .int)] [.ref (q 0), .int a1, .int a2] (wX4 q cy S) none (wX4 q cy res) := by
  unfold fX4_begin at hm
  refine cv_M.of (own := RX4) (by decide +kernel) rfl rfl (lv := [(0, .ref (q 0)), (1, .int a1), (2, .int a2)]) rfl (Nat.le_of_ble_eq_true rfl) ?_
  intro p e s m args below meth c A C hr hk
  refine cv_aload_n (i := 0) (q := 1) 0 C dX4_begin_0 rfl rfl rfl ?_
  refine cv_get (q := 4) C iX4_begin_X4 0 rfl rfl 2 (by decide) (List.mem_of_getElem? (i := 1) rfl) rfl rfl dX4_begin_1 rfl ?_
  refine cv_iconst (v := 0) (q := 5) C dX4_begin_4 (by decide) rfl ?_
  obtain ⟨r1, hr1, hm⟩ := cv_bd_s hm
  obtain ⟨s2, es2, hm⟩ := cv_lt_s hm
  refine cv_go (q := 8) (ws' := (wX4 q cy s2)) C (KJ7_fill_53178 (l := l) (σ := σ) (D := D) (cy := cy)  (q 3) 100 (gX4_sizes S) (0 : Int32) hr1) (cv_rs (As := [.ref (q 3), .int (0 : Int32)]) (st := []) (n := 2) C (KJ7_fill_53178 (l := l) (σ := σ) (D := D) (cy := cy)  (q 3) 100 (gX4_sizes S) (0 : Int32) hr1) gX4_begin_J7_fill_53178 rfl ⟨rfl, rfl⟩ (by decide +kernel) rfl ⟨Nat.le_of_ble_eq_true rfl, Nat.le_of_ble_eq_true rfl⟩ rfl (Nat.le_of_ble_eq_true rfl) dX4_begin_5 ⟨Nat.zero_le _, Nat.zero_le _⟩) [3] [0, 1, 2, 4, 5] rfl (wr := cv_pk (wX4 q cy S) [0, 1, 2, 4, 5]) rfl (by decide) (by decide) (by decide) [0, 1, 2, 5, 3, 4] (by decide) (by rw [es2]; rfl) rfl ?_
  refine cv_aload_n (i := 0) (q := 9) 0 C dX4_begin_8 rfl rfl rfl ?_
  refine cv_iconst (v := -1) (q := 10) C dX4_begin_9 (by decide) rfl ?_
  obtain ⟨s3, es3, hm⟩ := cv_lt_s hm
  refine cv_put (q := 13) (ws' := (wX4 q cy s3)) C iX4_begin_X4 tyX4 tyX4_ok nmX4 0 rfl rfl 5 (by decide) (List.mem_of_getElem? (i := 2) rfl) rfl rfl rfl rfl rfl (Nat.le_of_ble_eq_true rfl) dX4_begin_10 rfl (by rw [es3]; rfl) ?_
  refine cv_aload_n (i := 0) (q := 14) 0 C dX4_begin_13 rfl rfl rfl ?_
  refine cv_iload_n (i := 1) (q := 15) 1 C dX4_begin_14 rfl rfl rfl ?_
  obtain ⟨s4, es4, hm⟩ := cv_lt_s hm
  refine cv_put (q := 18) (ws' := (wX4 q cy s4)) C iX4_begin_X4 tyX4 tyX4_ok nmX4 0 rfl rfl 6 (by decide) (List.mem_of_getElem? (i := 3) rfl) rfl rfl rfl rfl rfl (Nat.le_of_ble_eq_true rfl) dX4_begin_15 rfl (by rw [es4]; rfl) ?_
  refine cv_aload_n (i := 0) (q := 19) 0 C dX4_begin_18 rfl rfl rfl ?_
  refine cv_iload_n (i := 2) (q := 20) 2 C dX4_begin_19 rfl rfl rfl ?_
  obtain ⟨s5, es5, hm⟩ := cv_lt_s hm
  refine cv_put (q := 23) (ws' := (wX4 q cy s5)) C iX4_begin_X4 tyX4 tyX4_ok nmX4 0 rfl rfl 7 (by decide) (List.mem_of_getElem? (i := 4) rfl) rfl rfl rfl rfl rfl (Nat.le_of_ble_eq_true rfl) dX4_begin_20 rfl (by rw [es5]; rfl) ?_
  refine cv_aload_n (i := 0) (q := 24) 0 C dX4_begin_23 rfl rfl rfl ?_
  refine cv_iconst (v := 0) (q := 25) C dX4_begin_24 (by decide) rfl ?_
  obtain ⟨s6, es6, hm⟩ := cv_lt_s hm
  refine cv_put (q := 28) (ws' := (wX4 q cy s6)) C iX4_begin_X4 tyX4 tyX4_ok nmX4 0 rfl rfl 8 (by decide) (List.mem_of_getElem? (i := 5) rfl) rfl rfl rfl rfl rfl (Nat.le_of_ble_eq_true rfl) dX4_begin_25 rfl (by rw [es6]; rfl) ?_
  refine cv_aload_n (i := 0) (q := 29) 0 C dX4_begin_28 rfl rfl rfl ?_
  refine cv_iconst (v := 0) (q := 30) C dX4_begin_29 (by decide) rfl ?_
  obtain ⟨s7, es7, hm⟩ := cv_lt_s hm
  refine cv_put (q := 33) (ws' := (wX4 q cy s7)) C iX4_begin_X4 tyX4 tyX4_ok nmX4 0 rfl rfl 9 (by decide) (List.mem_of_getElem? (i := 6) rfl) rfl rfl rfl rfl rfl (Nat.le_of_ble_eq_true rfl) dX4_begin_30 rfl (by rw [es7]; rfl) ?_
  refine cv_aload_n (i := 0) (q := 34) 0 C dX4_begin_33 rfl rfl rfl ?_
  refine cv_iconst (v := 0) (q := 35) C dX4_begin_34 (by decide) rfl ?_
  obtain ⟨s8, es8, hm⟩ := cv_lt_s hm
  refine cv_put (q := 38) (ws' := (wX4 q cy s8)) C iX4_begin_X4 tyX4 tyX4_ok nmX4 0 rfl rfl 10 (by decide) (List.mem_of_getElem? (i := 7) rfl) rfl rfl rfl rfl rfl (Nat.le_of_ble_eq_true rfl) dX4_begin_35 rfl (by rw [es8]; rfl) ?_
  refine cv_aload_n (i := 0) (q := 39) 0 C dX4_begin_38 rfl rfl rfl ?_
  refine cv_iconst (v := 0) (q := 40) C dX4_begin_39 (by decide) rfl ?_
  obtain ⟨s9, es9, hm⟩ := cv_lt_s hm
  refine cv_put (q := 43) (ws' := (wX4 q cy s9)) C iX4_begin_X4 tyX4 tyX4_ok nmX4 0 rfl rfl 11 (by decide) (List.mem_of_getElem? (i := 8) rfl) rfl rfl rfl rfl rfl (Nat.le_of_ble_eq_true rfl) dX4_begin_40 rfl (by rw [es9]; rfl) ?_
  obtain rfl := Option.some.inj hm
  exact cv_vret C hr hk dX4_begin_43
def fX4_copy (S : SX4) (S1 : SX4) : Option (SX4) :=
  cv_lt (sX4_lefts S (va_cpy (gX4_lefts S1) (gX4_lefts S) ((0 : Int32)).toNatClampNeg ((0 : Int32)).toNatClampNeg ((100 : Int32)).toNatClampNeg)) fun s1 =>
  cv_lt (sX4_rights s1 (va_cpy (gX4_rights S1) (gX4_rights s1) ((0 : Int32)).toNatClampNeg ((0 : Int32)).toNatClampNeg ((100 : Int32)).toNatClampNeg)) fun s2 =>
  cv_lt (sX4_sizes s2 (va_cpy (gX4_sizes S1) (gX4_sizes s2) ((0 : Int32)).toNatClampNeg ((0 : Int32)).toNatClampNeg ((100 : Int32)).toNatClampNeg)) fun s3 =>
  cv_lt (sX4_root s3 (gX4_root S1)) fun s4 =>
  cv_lt (sX4_a s4 (gX4_a S1)) fun s5 =>
  cv_lt (sX4_b s5 (gX4_b S1)) fun s6 =>
  cv_lt (sX4_number s6 (gX4_number S1)) fun s7 =>
  cv_lt (sX4_most s7 (gX4_most S1)) fun s8 =>
  cv_lt (sX4_buildings s8 (gX4_buildings S1)) fun s9 =>
  cv_lt (sX4_cost s9 (gX4_cost S1)) fun s10 =>
  some s10
abbrev rX4_copy : Room := { frames := 1, cells := 0, slots := 0, locals := 60 }
theorem iX4_copy_X4 : ∀ w ∈ u_ws RX4 TX4 12, w ∈ wsX4_copy := fun w h => List.mem_cons_of_mem _ (List.mem_append_right _ h)
set_option maxHeartbeats 4000000 in
set_option maxRecDepth 100000 in
theorem KX4_copy {l : Launch} {σ : Nat → Nat} {D : va_G} {cy : ClassId} (q : Nat → Nat) (q1 : Nat → Nat) (S : SX4) (S1 : SX4) {res : SX4} (hm : fX4_copy S S1 = some res) : cv_M l yX4_copy wsX4_copy rX4_copy σ D [(cy, .int)] [.ref (q 0), .ref (q1 0)] (wX4 q cy S ++ wX4 q1 cy S1) none (wX4 q cy res ++ wX4 q1 cy S1) := by
  unfold fX4_copy at hm
  refine cv_M.of (own := RX4) (by decide +kernel) rfl rfl (lv := [(0, .ref (q 0)), (1, .ref (q1 0))]) rfl (Nat.le_of_ble_eq_true rfl) ?_
  intro p e s m args below meth c A C hr hk
  refine cv_aload_n (i := 1) (q := 1) 1 C dX4_copy_0 rfl rfl rfl ?_
  refine cv_get (q := 4) C iX4_copy_X4 6 rfl rfl 0 (by decide) (List.mem_of_getElem? (i := 1) rfl) rfl rfl dX4_copy_1 rfl ?_
  refine cv_iconst (v := 0) (q := 5) C dX4_copy_4 (by decide) rfl ?_
  refine cv_aload_n (i := 0) (q := 6) 0 C dX4_copy_5 rfl rfl rfl ?_
  refine cv_get (q := 9) C iX4_copy_X4 0 rfl rfl 0 (by decide) (List.mem_of_getElem? (i := 1) rfl) rfl rfl dX4_copy_6 rfl ?_
  refine cv_iconst (v := 0) (q := 10) C dX4_copy_9 (by decide) rfl ?_
  refine cv_bipush (v := 100) (q := 12) C dX4_copy_10 (by decide) rfl ?_
  obtain ⟨s1, es1, hm⟩ := cv_lt_s hm
  refine cv_copyi (q := 15) (ws' := (wX4 q cy s1 ++ wX4 q1 cy S1)) C (List.mem_of_getElem? (i := 2) rfl) (List.mem_of_getElem? (i := 3) rfl) (List.mem_of_getElem? (i := 4) rfl) (List.mem_of_getElem? (i := 5) rfl) 7 1 0 rfl rfl rfl (by decide) (by decide) (by decide) (by decide) (by decide) (Nat.le_of_ble_eq_true rfl) (by decide) dX4_copy_12 rfl (by rw [es1]; rfl) ?_
  refine cv_aload_n (i := 1) (q := 16) 1 C dX4_copy_15 rfl rfl rfl ?_
  refine cv_get (q := 19) C iX4_copy_X4 6 rfl rfl 1 (by decide) (List.mem_of_getElem? (i := 6) rfl) rfl rfl dX4_copy_16 rfl ?_
  refine cv_iconst (v := 0) (q := 20) C dX4_copy_19 (by decide) rfl ?_
  refine cv_aload_n (i := 0) (q := 21) 0 C dX4_copy_20 rfl rfl rfl ?_
  refine cv_get (q := 24) C iX4_copy_X4 0 rfl rfl 1 (by decide) (List.mem_of_getElem? (i := 6) rfl) rfl rfl dX4_copy_21 rfl ?_
  refine cv_iconst (v := 0) (q := 25) C dX4_copy_24 (by decide) rfl ?_
  refine cv_bipush (v := 100) (q := 27) C dX4_copy_25 (by decide) rfl ?_
  obtain ⟨s2, es2, hm⟩ := cv_lt_s hm
  refine cv_copyi (q := 30) (ws' := (wX4 q cy s2 ++ wX4 q1 cy S1)) C (List.mem_of_getElem? (i := 2) rfl) (List.mem_of_getElem? (i := 3) rfl) (List.mem_of_getElem? (i := 4) rfl) (List.mem_of_getElem? (i := 5) rfl) 8 2 0 rfl rfl rfl (by decide) (by decide) (by decide) (by decide) (by decide) (Nat.le_of_ble_eq_true rfl) (by decide) dX4_copy_27 rfl (by rw [es2]; rfl) ?_
  refine cv_aload_n (i := 1) (q := 31) 1 C dX4_copy_30 rfl rfl rfl ?_
  refine cv_get (q := 34) C iX4_copy_X4 6 rfl rfl 2 (by decide) (List.mem_of_getElem? (i := 7) rfl) rfl rfl dX4_copy_31 rfl ?_
  refine cv_iconst (v := 0) (q := 35) C dX4_copy_34 (by decide) rfl ?_
  refine cv_aload_n (i := 0) (q := 36) 0 C dX4_copy_35 rfl rfl rfl ?_
  refine cv_get (q := 39) C iX4_copy_X4 0 rfl rfl 2 (by decide) (List.mem_of_getElem? (i := 7) rfl) rfl rfl dX4_copy_36 rfl ?_
  refine cv_iconst (v := 0) (q := 40) C dX4_copy_39 (by decide) rfl ?_
  refine cv_bipush (v := 100) (q := 42) C dX4_copy_40 (by decide) rfl ?_
  obtain ⟨s3, es3, hm⟩ := cv_lt_s hm
  refine cv_copyi (q := 45) (ws' := (wX4 q cy s3 ++ wX4 q1 cy S1)) C (List.mem_of_getElem? (i := 2) rfl) (List.mem_of_getElem? (i := 3) rfl) (List.mem_of_getElem? (i := 4) rfl) (List.mem_of_getElem? (i := 5) rfl) 9 3 0 rfl rfl rfl (by decide) (by decide) (by decide) (by decide) (by decide) (Nat.le_of_ble_eq_true rfl) (by decide) dX4_copy_42 rfl (by rw [es3]; rfl) ?_
  refine cv_aload_n (i := 0) (q := 46) 0 C dX4_copy_45 rfl rfl rfl ?_
  refine cv_aload_n (i := 1) (q := 47) 1 C dX4_copy_46 rfl rfl rfl ?_
  refine cv_get (q := 50) C iX4_copy_X4 6 rfl rfl 5 (by decide) (List.mem_of_getElem? (i := 8) rfl) rfl rfl dX4_copy_47 rfl ?_
  obtain ⟨s4, es4, hm⟩ := cv_lt_s hm
  refine cv_put (q := 53) (ws' := (wX4 q cy s4 ++ wX4 q1 cy S1)) C iX4_copy_X4 tyX4 tyX4_ok nmX4 0 rfl rfl 5 (by decide) (List.mem_of_getElem? (i := 8) rfl) rfl rfl rfl rfl rfl (Nat.le_of_ble_eq_true rfl) dX4_copy_50 rfl (by rw [es4]; rfl) ?_
  refine cv_aload_n (i := 0) (q := 54) 0 C dX4_copy_53 rfl rfl rfl ?_
  refine cv_aload_n (i := 1) (q := 55) 1 C dX4_copy_54 rfl rfl rfl ?_
  refine cv_get (q := 58) C iX4_copy_X4 6 rfl rfl 6 (by decide) (List.mem_of_getElem? (i := 9) rfl) rfl rfl dX4_copy_55 rfl ?_
  obtain ⟨s5, es5, hm⟩ := cv_lt_s hm
  refine cv_put (q := 61) (ws' := (wX4 q cy s5 ++ wX4 q1 cy S1)) C iX4_copy_X4 tyX4 tyX4_ok nmX4 0 rfl rfl 6 (by decide) (List.mem_of_getElem? (i := 9) rfl) rfl rfl rfl rfl rfl (Nat.le_of_ble_eq_true rfl) dX4_copy_58 rfl (by rw [es5]; rfl) ?_
  refine cv_aload_n (i := 0) (q := 62) 0 C dX4_copy_61 rfl rfl rfl ?_
  refine cv_aload_n (i := 1) (q := 63) 1 C dX4_copy_62 rfl rfl rfl ?_
  refine cv_get (q := 66) C iX4_copy_X4 6 rfl rfl 7 (by decide) (List.mem_of_getElem? (i := 10) rfl) rfl rfl dX4_copy_63 rfl ?_
  obtain ⟨s6, es6, hm⟩ := cv_lt_s hm
  refine cv_put (q := 69) (ws' := (wX4 q cy s6 ++ wX4 q1 cy S1)) C iX4_copy_X4 tyX4 tyX4_ok nmX4 0 rfl rfl 7 (by decide) (List.mem_of_getElem? (i := 10) rfl) rfl rfl rfl rfl rfl (Nat.le_of_ble_eq_true rfl) dX4_copy_66 rfl (by rw [es6]; rfl) ?_
  refine cv_aload_n (i := 0) (q := 70) 0 C dX4_copy_69 rfl rfl rfl ?_
  refine cv_aload_n (i := 1) (q := 71) 1 C dX4_copy_70 rfl rfl rfl ?_
  refine cv_get (q := 74) C iX4_copy_X4 6 rfl rfl 8 (by decide) (List.mem_of_getElem? (i := 11) rfl) rfl rfl dX4_copy_71 rfl ?_
  obtain ⟨s7, es7, hm⟩ := cv_lt_s hm
  refine cv_put (q := 77) (ws' := (wX4 q cy s7 ++ wX4 q1 cy S1)) C iX4_copy_X4 tyX4 tyX4_ok nmX4 0 rfl rfl 8 (by decide) (List.mem_of_getElem? (i := 11) rfl) rfl rfl rfl rfl rfl (Nat.le_of_ble_eq_true rfl) dX4_copy_74 rfl (by rw [es7]; rfl) ?_
  refine cv_aload_n (i := 0) (q := 78) 0 C dX4_copy_77 rfl rfl rfl ?_
  refine cv_aload_n (i := 1) (q := 79) 1 C dX4_copy_78 rfl rfl rfl ?_
  refine cv_get (q := 82) C iX4_copy_X4 6 rfl rfl 9 (by decide) (List.mem_of_getElem? (i := 12) rfl) rfl rfl dX4_copy_79 rfl ?_
  obtain ⟨s8, es8, hm⟩ := cv_lt_s hm
  refine cv_put (q := 85) (ws' := (wX4 q cy s8 ++ wX4 q1 cy S1)) C iX4_copy_X4 tyX4 tyX4_ok nmX4 0 rfl rfl 9 (by decide) (List.mem_of_getElem? (i := 12) rfl) rfl rfl rfl rfl rfl (Nat.le_of_ble_eq_true rfl) dX4_copy_82 rfl (by rw [es8]; rfl) ?_
  refine cv_aload_n (i := 0) (q := 86) 0 C dX4_copy_85 rfl rfl rfl ?_
  refine cv_aload_n (i := 1) (q := 87) 1 C dX4_copy_86 rfl rfl rfl ?_
  refine cv_get (q := 90) C iX4_copy_X4 6 rfl rfl 10 (by decide) (List.mem_of_getElem? (i := 13) rfl) rfl rfl dX4_copy_87 rfl ?_
  obtain ⟨s9, es9, hm⟩ := cv_lt_s hm
  refine cv_put (q := 93) (ws' := (wX4 q cy s9 ++ wX4 q1 cy S1)) C iX4_copy_X4 tyX4 tyX4_ok nmX4 0 rfl rfl 10 (by decide) (List.mem_of_getElem? (i := 13) rfl) rfl rfl rfl rfl rfl (Nat.le_of_ble_eq_true rfl) dX4_copy_90 rfl (by rw [es9]; rfl) ?_
  refine cv_aload_n (i := 0) (q := 94) 0 C dX4_copy_93 rfl rfl rfl ?_
  refine cv_aload_n (i := 1) (q := 95) 1 C dX4_copy_94 rfl rfl rfl ?_
  refine cv_get (q := 98) C iX4_copy_X4 6 rfl rfl 11 (by decide) (List.mem_of_getElem? (i := 14) rfl) rfl rfl dX4_copy_95 rfl ?_
  obtain ⟨s10, es10, hm⟩ := cv_lt_s hm
  refine cv_put (q := 101) (ws' := (wX4 q cy s10 ++ wX4 q1 cy S1)) C iX4_copy_X4 tyX4 tyX4_ok nmX4 0 rfl rfl 11 (by decide) (List.mem_of_getElem? (i := 14) rfl) rfl rfl rfl rfl rfl (Nat.le_of_ble_eq_true rfl) dX4_copy_98 rfl (by rw [es10]; rfl) ?_
  obtain rfl := Option.some.inj hm
  exact cv_vret C hr hk dX4_copy_101
def fX4_has (S : SX4) (a1 : Int32) : Option (Int32) :=
  if a1 < 0 then
    (
    some (0 : Int32)
    )
  else
    (
    if (100 : Int32) ≤ a1 then
      (
      some (0 : Int32)
      )
    else
      (
      cv_gd (0 ≤ (a1).toInt ∧ (a1).toInt < 100) <|
      if ((gX4_sizes S) (a1).toNatClampNeg) ≤ 0 then
        (
        some (0 : Int32)
        )
      else
        (
        some (1 : Int32)
        )
      )
    )
abbrev rX4_has : Room := { frames := 0, cells := 0, slots := 0, locals := 0 }
theorem iX4_has_X4 : ∀ w ∈ u_ws RX4 TX4 12, w ∈ wsX4_has := fun w h => List.mem_cons_of_mem _ (List.mem_append_right _ h)
set_option maxHeartbeats 4000000 in
set_option maxRecDepth 100000 in
theorem KX4_has {l : Launch} {σ : Nat → Nat} {D : va_G} {cy : ClassId} (q : Nat → Nat) (S : SX4) (a1 : Int32) {res : Int32} (hm : fX4_has S a1 = some res) : cv_M l yX4_has wsX4_has rX4_has σ D [(cy, .int)] [.ref (q 0), .int a1] (wX4 q cy S) (some (.int res)) (wX4 q cy S) := by
  unfold fX4_has at hm
  refine cv_M.of (own := RX4) (by decide +kernel) rfl rfl (lv := [(0, .ref (q 0)), (1, .int a1)]) rfl (Nat.le_of_ble_eq_true rfl) ?_
  intro p e s m args below meth c A C hr hk
  refine cv_iload_n (i := 1) (q := 1) 1 C dX4_has_0 rfl rfl rfl ?_
  refine cv_if_lt (tgt := 23) (q := 4) C dX4_has_1 (by decide) rfl (fun h1 => ?_) (fun h1 => ?_)
  · have hm := cv_if_t h1 hm
    refine cv_iconst (v := 0) (q := 24) C dX4_has_23 (by decide) rfl ?_
    obtain rfl := Option.some.inj hm
    exact cv_zret C hr hk (cv_bool (Or.inl rfl)) dX4_has_24
  · have hm := cv_if_f h1 hm
    refine cv_iload_n (i := 1) (q := 5) 1 C dX4_has_4 rfl rfl rfl ?_
    refine cv_bipush (v := 100) (q := 7) C dX4_has_5 (by decide) rfl ?_
    refine cv_icmp_ge (tgt := 23) (q := 10) C dX4_has_7 (by decide) rfl (fun h2 => ?_) (fun h2 => ?_)
    · have hm := cv_if_t h2 hm
      refine cv_iconst (v := 0) (q := 24) C dX4_has_23 (by decide) rfl ?_
      obtain rfl := Option.some.inj hm
      exact cv_zret C hr hk (cv_bool (Or.inl rfl)) dX4_has_24
    · have hm := cv_if_f h2 hm
      refine cv_aload_n (i := 0) (q := 11) 0 C dX4_has_10 rfl rfl rfl ?_
      refine cv_get (q := 14) C iX4_has_X4 0 rfl rfl 2 (by decide) (List.mem_of_getElem? (i := 1) rfl) rfl rfl dX4_has_11 rfl ?_
      refine cv_iload_n (i := 1) (q := 15) 1 C dX4_has_14 rfl rfl rfl ?_
      obtain ⟨g3, hm⟩ := cv_gd_s hm
      refine cv_iald (q := 16) C 3 0 rfl rfl (vp_in_iff.mpr g3) dX4_has_15 rfl ?_
      refine cv_if_le (tgt := 23) (q := 19) C dX4_has_16 (by decide) rfl (fun h4 => ?_) (fun h4 => ?_)
      · have hm := cv_if_t h4 hm
        refine cv_iconst (v := 0) (q := 24) C dX4_has_23 (by decide) rfl ?_
        obtain rfl := Option.some.inj hm
        exact cv_zret C hr hk (cv_bool (Or.inl rfl)) dX4_has_24
      · have hm := cv_if_f h4 hm
        refine cv_iconst (v := 1) (q := 20) C dX4_has_19 (by decide) rfl ?_
        refine cv_goto (tgt := 24) C dX4_has_20 (by decide) ?_
        obtain rfl := Option.some.inj hm
        exact cv_zret C hr hk (cv_bool (Or.inr rfl)) dX4_has_24
def fX4_walk_L7 (u1 : Int32) : Nat → Int32 → Int32 → SX4 → Option (Int32 × SX4)
  | 0, _, _, _ => none
  | n + 1, y2, y3, S =>
    cv_bd (fX4_has S y3) fun r2 =>
    if r2 = 0 then
      (
      some (y2, S)
      )
    else
      (
      if (40 : Int32) ≤ y2 then
        (
        some (y2, S)
        )
      else
        (
        cv_gd (0 ≤ (y2).toInt ∧ (y2).toInt < 40) <|
        cv_lt (sX4_way S (upd (gX4_way S) (y2).toNatClampNeg y3)) fun s6 =>
        cv_lt (y2 + (1 : Int32)) fun x7 =>
        cv_bd (
          if u1 = y3 then
            (
            some (-1 : Int32)
            )
          else
            (
            if y3 ≤ u1 then
              (
              cv_gd (0 ≤ (y3).toInt ∧ (y3).toInt < 100) <|
              some ((gX4_rights s6) (y3).toNatClampNeg)
              )
            else
              (
              cv_gd (0 ≤ (y3).toInt ∧ (y3).toInt < 100) <|
              some ((gX4_lefts s6) (y3).toNatClampNeg)
              )
            )
        ) fun j8 =>
        fX4_walk_L7 u1 n x7 j8 s6
        )
      )
def fX4_walk (S : SX4) (a1 : Int32) : Option (Int32 × SX4) :=
  cv_lt ((gX4_root S)) fun x1 =>
  cv_bd (fX4_walk_L7 a1 256 (0 : Int32) x1 S) fun j14 =>
  some (j14.1, j14.2)
abbrev rX4_walk : Room := { frames := 1, cells := 0, slots := 0, locals := 21 }
theorem iX4_walk_X4 : ∀ w ∈ u_ws RX4 TX4 12, w ∈ wsX4_walk := fun w h => List.mem_cons_of_mem _ (List.mem_append_right _ h)
set_option maxHeartbeats 4000000 in
set_option maxRecDepth 100000 in
theorem vX4_walk_L7 {p : Program} {l : Launch} {e : Env} {s : State} {m : MethodId} {args : Array Value} {below : List Frame} {meth : Method} {c : Code} {σ : Nat → Nat} {D : va_G} {A : Nat → Prop} {cy : ClassId} (q : Nat → Nat) (u1 : Int32) (C : cv_C p s m args c cX4_walk 4 RX4 wsX4_walk σ D [(cy, .int)] A) {Q : State → Prop} {j : Int32 × SX4} : ∀ (n : Nat) (y2 : Int32) (y3 : Int32) (S : SX4), fX4_walk_L7 u1 n y2 y3 S = some j → cv_V p l e rX4_walk s m args below meth c 4 D A Q 0 0 (wX4 q cy j.2) 67 [(2, .int j.1)] [] → cv_V p l e rX4_walk s m args below meth c 4 D A Q 0 0 (wX4 q cy S) 7 [(0, .ref (q 0)), (1, .int u1), (2, .int y2), (3, .int y3)] [] := by
  intro n
  induction n with
  | zero => intro y2 y3 S hm kx; cases hm
  | succ n ih =>
    intro y2 y3 S hm kx
    have hm : fX4_walk_L7 u1 (n + 1) y2 y3 S = some j := hm
    unfold fX4_walk_L7 at hm
    refine cv_aload_n (i := 0) (q := 8) 0 C dX4_walk_7 rfl rfl rfl ?_
    refine cv_iload_n (i := 3) (q := 9) 3 C dX4_walk_8 rfl rfl rfl ?_
    obtain ⟨r2, hr2, hm⟩ := cv_bd_s hm
    refine cv_goW (q := 12) C (KX4_has (l := l) (σ := σ) (D := D) (cy := cy)  q  S y3 hr2) (cv_rv (As := [.int y3]) (st := []) (n := 1) (q0 := 0) (ci := 4) C (KX4_has (l := l) (σ := σ) (D := D) (cy := cy)  q  S y3 hr2) rfl rfl gX4_walk_X4_has rfl ⟨rfl, rfl⟩ (by decide +kernel) rfl ⟨Nat.le_of_ble_eq_true rfl, Nat.le_of_ble_eq_true rfl⟩ rfl (Nat.le_of_ble_eq_true rfl) dX4_walk_9 ⟨Nat.zero_le _, Nat.zero_le _⟩) rfl ?_
    refine cv_if_eq (tgt := 67) (q := 15) C dX4_walk_12 (by decide) rfl (fun h3 => ?_) (fun h3 => ?_)
    · have hm := cv_if_t h3 hm
      obtain rfl := Option.some.inj hm
      refine cv_sub [2] rfl ?_
      exact kx
    · have hm := cv_if_f h3 hm
      refine cv_iload_n (i := 2) (q := 16) 2 C dX4_walk_15 rfl rfl rfl ?_
      refine cv_aload_n (i := 0) (q := 17) 0 C dX4_walk_16 rfl rfl rfl ?_
      refine cv_get (q := 20) C iX4_walk_X4 0 rfl rfl 3 (by decide) (List.mem_of_getElem? (i := 2) rfl) rfl rfl dX4_walk_17 rfl ?_
      refine cv_alen (v := 40) (q := 21) C 4 0 rfl rfl (by decide) dX4_walk_20 rfl ?_
      refine cv_icmp_ge (tgt := 67) (q := 24) C dX4_walk_21 (by decide) rfl (fun h4 => ?_) (fun h4 => ?_)
      · have hm := cv_if_t h4 hm
        obtain rfl := Option.some.inj hm
        refine cv_sub [2] rfl ?_
        exact kx
      · have hm := cv_if_f h4 hm
        refine cv_aload_n (i := 0) (q := 25) 0 C dX4_walk_24 rfl rfl rfl ?_
        refine cv_get (q := 28) C iX4_walk_X4 0 rfl rfl 3 (by decide) (List.mem_of_getElem? (i := 2) rfl) rfl rfl dX4_walk_25 rfl ?_
        refine cv_iload_n (i := 2) (q := 29) 2 C dX4_walk_28 rfl rfl rfl ?_
        refine cv_iload_n (i := 3) (q := 30) 3 C dX4_walk_29 rfl rfl rfl ?_
        obtain ⟨g5, hm⟩ := cv_gd_s hm
        obtain ⟨s6, es6, hm⟩ := cv_lt_s hm
        refine cv_iast (q := 31) (ws' := (wX4 q cy s6)) C 4 0 rfl rfl (vp_in_iff.mpr g5) dX4_walk_30 rfl (by rw [es6]; rfl) ?_
        obtain ⟨x7, ex7, hm⟩ := cv_lt_s hm
        refine cv_iinc (v := x7) (lv' := [(2, .int x7), (0, .ref (q 0)), (1, .int u1), (3, .int y3)]) (q := 34) 2 C dX4_walk_31 rfl (by rw [ex7]; rfl) (by decide) rfl rfl ?_
        refine cv_iload_n (i := 1) (q := 35) 2 C dX4_walk_34 rfl rfl rfl ?_
        refine cv_iload_n (i := 3) (q := 36) 3 C dX4_walk_35 rfl rfl rfl ?_
        obtain ⟨j8, hj8, hm⟩ := cv_bd_s hm
        refine cv_cut (ws' := (wX4 q cy s6)) (pc' := 63) (lv' := [(0, .ref (q 0)), (1, .int u1), (2, .int x7)]) (st' := [.int j8]) ?_ (fun K9 => ?_)
        · refine cv_istore_n (i := 3) (lv' := [(3, .int j8), (0, .ref (q 0)), (1, .int u1), (2, .int x7)]) (q := 64) C dX4_walk_63 rfl (by decide) rfl rfl ?_
          refine cv_goto (tgt := 7) C dX4_walk_64 (by decide) ?_
          refine cv_sub [1, 2, 3, 0] rfl ?_
          exact ih x7 j8 s6 hm kx
        · have hm := hj8
          refine cv_icmp_ne (tgt := 43) (q := 39) C dX4_walk_36 (by decide) rfl (fun h10 => ?_) (fun h10 => ?_)
          · have hm := cv_if_f h10 hm
            refine cv_iload_n (i := 1) (q := 44) 2 C dX4_walk_43 rfl rfl rfl ?_
            refine cv_iload_n (i := 3) (q := 45) 3 C dX4_walk_44 rfl rfl rfl ?_
            refine cv_icmp_ge (tgt := 57) (q := 48) C dX4_walk_45 (by decide) rfl (fun h11 => ?_) (fun h11 => ?_)
            · have hm := cv_if_t h11 hm
              refine cv_aload_n (i := 0) (q := 58) 1 C dX4_walk_57 rfl rfl rfl ?_
              refine cv_get (q := 61) C iX4_walk_X4 0 rfl rfl 1 (by decide) (List.mem_of_getElem? (i := 4) rfl) rfl rfl dX4_walk_58 rfl ?_
              refine cv_iload_n (i := 3) (q := 62) 3 C dX4_walk_61 rfl rfl rfl ?_
              obtain ⟨g12, hm⟩ := cv_gd_s hm
              refine cv_iald (q := 63) C 2 0 rfl rfl (vp_in_iff.mpr g12) dX4_walk_62 rfl ?_
              obtain rfl := Option.some.inj hm
              refine cv_sub [1, 2, 0] rfl ?_
              exact K9
            · have hm := cv_if_f h11 hm
              refine cv_aload_n (i := 0) (q := 49) 1 C dX4_walk_48 rfl rfl rfl ?_
              refine cv_get (q := 52) C iX4_walk_X4 0 rfl rfl 0 (by decide) (List.mem_of_getElem? (i := 3) rfl) rfl rfl dX4_walk_49 rfl ?_
              refine cv_iload_n (i := 3) (q := 53) 3 C dX4_walk_52 rfl rfl rfl ?_
              obtain ⟨g13, hm⟩ := cv_gd_s hm
              refine cv_iald (q := 54) C 1 0 rfl rfl (vp_in_iff.mpr g13) dX4_walk_53 rfl ?_
              refine cv_goto (tgt := 63) C dX4_walk_54 (by decide) ?_
              obtain rfl := Option.some.inj hm
              refine cv_sub [1, 2, 0] rfl ?_
              exact K9
          · have hm := cv_if_t h10 hm
            refine cv_iconst (v := -1) (q := 40) C dX4_walk_39 (by decide) rfl ?_
            refine cv_goto (tgt := 63) C dX4_walk_40 (by decide) ?_
            obtain rfl := Option.some.inj hm
            refine cv_sub [1, 2, 0] rfl ?_
            exact K9
set_option maxHeartbeats 4000000 in
set_option maxRecDepth 100000 in
theorem KX4_walk {l : Launch} {σ : Nat → Nat} {D : va_G} {cy : ClassId} (q : Nat → Nat) (S : SX4) (a1 : Int32) {res : Int32 × SX4} (hm : fX4_walk S a1 = some res) : cv_M l yX4_walk wsX4_walk rX4_walk σ D [(cy, .int)] [.ref (q 0), .int a1] (wX4 q cy S) (some (.int res.1)) (wX4 q cy res.2) := by
  unfold fX4_walk at hm
  refine cv_M.of (own := RX4) (by decide +kernel) rfl rfl (lv := [(0, .ref (q 0)), (1, .int a1)]) rfl (Nat.le_of_ble_eq_true rfl) ?_
  intro p e s m args below meth c A C hr hk
  refine cv_iconst (v := 0) (q := 1) C dX4_walk_0 (by decide) rfl ?_
  refine cv_istore_n (i := 2) (lv' := [(2, .int (0 : Int32)), (0, .ref (q 0)), (1, .int a1)]) (q := 2) C dX4_walk_1 rfl (by decide) rfl rfl ?_
  refine cv_aload_n (i := 0) (q := 3) 1 C dX4_walk_2 rfl rfl rfl ?_
  refine cv_get (q := 6) C iX4_walk_X4 0 rfl rfl 5 (by decide) (List.mem_of_getElem? (i := 1) rfl) rfl rfl dX4_walk_3 rfl ?_
  obtain ⟨x1, ex1, hm⟩ := cv_lt_s hm
  refine cv_topi ex1 ?_
  refine cv_istore_n (i := 3) (lv' := [(3, .int x1), (2, .int (0 : Int32)), (0, .ref (q 0)), (1, .int a1)]) (q := 7) C dX4_walk_6 rfl (by decide) rfl rfl ?_
  obtain ⟨j14, hj14, hm⟩ := cv_bd_s hm
  refine cv_cut (ws' := (wX4 q cy j14.2)) (pc' := 67) (lv' := [(2, .int j14.1)]) (st' := []) ?_ (fun K15 => ?_)
  · refine cv_iload_n (i := 2) (q := 68) 0 C dX4_walk_67 rfl rfl rfl ?_
    obtain rfl := Option.some.inj hm
    exact cv_iret C hr hk dX4_walk_68
  · refine cv_sub [2, 3, 1, 0] rfl ?_
    exact vX4_walk_L7 q a1 C 256 (0 : Int32) x1 S hj14 K15
def fX4_limit_L18 (S : SX4) : Nat → Int32 → Int64 → Int64 → Option (Int32)
  | 0, _, _, _ => none
  | n + 1, y2, y3, y5 =>
    if (20 : Int32) ≤ y2 then
      (
      some y2
      )
    else
      (
      if 0 < (lg_cmp y3 y5) then
        (
        some y2
        )
      else
        (
        cv_lt (y2 + (1 : Int32)) fun x5 =>
        cv_lt ((y3 * ((gX4_b S)).toInt64)) fun x6 =>
        cv_lt ((y5 * ((gX4_a S)).toInt64)) fun x7 =>
        fX4_limit_L18 S n x5 x6 x7
        )
      )
def fX4_limit (S : SX4) (a1 : Int32) : Option (Int32) :=
  cv_lt (((gX4_b S)).toInt64) fun x1 =>
  cv_lt (((a1).toInt64 * ((gX4_a S)).toInt64)) fun x2 =>
  cv_bd (fX4_limit_L18 S 256 (0 : Int32) x1 x2) fun j8 =>
  some j8
abbrev rX4_limit : Room := { frames := 0, cells := 0, slots := 0, locals := 0 }
theorem iX4_limit_X4 : ∀ w ∈ u_ws RX4 TX4 12, w ∈ wsX4_limit := fun w h => List.mem_cons_of_mem _ (List.mem_append_right _ h)
set_option maxHeartbeats 4000000 in
set_option maxRecDepth 100000 in
theorem vX4_limit_L18 {p : Program} {l : Launch} {e : Env} {s : State} {m : MethodId} {args : Array Value} {below : List Frame} {meth : Method} {c : Code} {σ : Nat → Nat} {D : va_G} {A : Nat → Prop} {cy : ClassId} (q : Nat → Nat) (S : SX4) (C : cv_C p s m args c cX4_limit 7 RX4 wsX4_limit σ D [(cy, .int)] A) {Q : State → Prop} {j : Int32} : ∀ (n : Nat) (y2 : Int32) (y3 : Int64) (y5 : Int64), fX4_limit_L18 S n y2 y3 y5 = some j → cv_V p l e rX4_limit s m args below meth c 7 D A Q 0 0 (wX4 q cy S) 55 [(2, .int j)] [] → cv_V p l e rX4_limit s m args below meth c 7 D A Q 0 0 (wX4 q cy S) 18 [(0, .ref (q 0)), (2, .int y2), (3, .long y3), (5, .long y5)] [] := by
  intro n
  induction n with
  | zero => intro y2 y3 y5 hm kx; cases hm
  | succ n ih =>
    intro y2 y3 y5 hm kx
    have hm : fX4_limit_L18 S (n + 1) y2 y3 y5 = some j := hm
    unfold fX4_limit_L18 at hm
    refine cv_iload_n (i := 2) (q := 19) 1 C dX4_limit_18 rfl rfl rfl ?_
    refine cv_bipush (v := 20) (q := 21) C dX4_limit_19 (by decide) rfl ?_
    refine cv_icmp_ge (tgt := 55) (q := 24) C dX4_limit_21 (by decide) rfl (fun h3 => ?_) (fun h3 => ?_)
    · have hm := cv_if_t h3 hm
      obtain rfl := Option.some.inj hm
      refine cv_sub [1] rfl ?_
      exact kx
    · have hm := cv_if_f h3 hm
      refine cv_lload_n (i := 3) (q := 25) 2 C dX4_limit_24 rfl rfl rfl ?_
      refine cv_lload (i := 5) (q := 27) 3 C dX4_limit_25 rfl rfl ?_
      refine cv_lcmp (q := 28) C dX4_limit_27 rfl ?_
      refine cv_if_gt (tgt := 55) (q := 31) C dX4_limit_28 (by decide) rfl (fun h4 => ?_) (fun h4 => ?_)
      · have hm := cv_if_t h4 hm
        obtain rfl := Option.some.inj hm
        refine cv_sub [1] rfl ?_
        exact kx
      · have hm := cv_if_f h4 hm
        obtain ⟨x5, ex5, hm⟩ := cv_lt_s hm
        refine cv_iinc (v := x5) (lv' := [(2, .int x5), (0, .ref (q 0)), (3, .long y3), (5, .long y5)]) (q := 34) 1 C dX4_limit_31 rfl (by rw [ex5]; rfl) (by decide) rfl rfl ?_
        refine cv_lload_n (i := 3) (q := 35) 2 C dX4_limit_34 rfl rfl rfl ?_
        refine cv_aload_n (i := 0) (q := 36) 1 C dX4_limit_35 rfl rfl rfl ?_
        refine cv_get (q := 39) C iX4_limit_X4 0 rfl rfl 7 (by decide) (List.mem_of_getElem? (i := 1) rfl) rfl rfl dX4_limit_36 rfl ?_
        refine cv_i2l (q := 40) C dX4_limit_39 rfl ?_
        refine cv_lmul (q := 41) C dX4_limit_40 rfl ?_
        obtain ⟨x6, ex6, hm⟩ := cv_lt_s hm
        refine cv_topl ex6 ?_
        refine cv_lstore_n (i := 3) (lv' := [(3, .long x6), (2, .int x5), (0, .ref (q 0)), (5, .long y5)]) (q := 42) C dX4_limit_41 rfl (by decide) rfl rfl ?_
        refine cv_lload (i := 5) (q := 44) 3 C dX4_limit_42 rfl rfl ?_
        refine cv_aload_n (i := 0) (q := 45) 2 C dX4_limit_44 rfl rfl rfl ?_
        refine cv_get (q := 48) C iX4_limit_X4 0 rfl rfl 6 (by decide) (List.mem_of_getElem? (i := 2) rfl) rfl rfl dX4_limit_45 rfl ?_
        refine cv_i2l (q := 49) C dX4_limit_48 rfl ?_
        refine cv_lmul (q := 50) C dX4_limit_49 rfl ?_
        obtain ⟨x7, ex7, hm⟩ := cv_lt_s hm
        refine cv_topl ex7 ?_
        refine cv_lstore (i := 5) (lv' := [(5, .long x7), (3, .long x6), (2, .int x5), (0, .ref (q 0))]) (q := 52) C dX4_limit_50 (by decide) rfl rfl ?_
        refine cv_goto (tgt := 18) C dX4_limit_52 (by decide) ?_
        refine cv_sub [3, 2, 1, 0] rfl ?_
        exact ih x5 x6 x7 hm kx
set_option maxHeartbeats 4000000 in
set_option maxRecDepth 100000 in
theorem KX4_limit {l : Launch} {σ : Nat → Nat} {D : va_G} {cy : ClassId} (q : Nat → Nat) (S : SX4) (a1 : Int32) {res : Int32} (hm : fX4_limit S a1 = some res) : cv_M l yX4_limit wsX4_limit rX4_limit σ D [(cy, .int)] [.ref (q 0), .int a1] (wX4 q cy S) (some (.int res)) (wX4 q cy S) := by
  unfold fX4_limit at hm
  refine cv_M.of (own := RX4) (by decide +kernel) rfl rfl (lv := [(0, .ref (q 0)), (1, .int a1)]) rfl (Nat.le_of_ble_eq_true rfl) ?_
  intro p e s m args below meth c A C hr hk
  refine cv_iconst (v := 0) (q := 1) C dX4_limit_0 (by decide) rfl ?_
  refine cv_istore_n (i := 2) (lv' := [(2, .int (0 : Int32)), (0, .ref (q 0)), (1, .int a1)]) (q := 2) C dX4_limit_1 rfl (by decide) rfl rfl ?_
  refine cv_aload_n (i := 0) (q := 3) 1 C dX4_limit_2 rfl rfl rfl ?_
  refine cv_get (q := 6) C iX4_limit_X4 0 rfl rfl 7 (by decide) (List.mem_of_getElem? (i := 1) rfl) rfl rfl dX4_limit_3 rfl ?_
  refine cv_i2l (q := 7) C dX4_limit_6 rfl ?_
  obtain ⟨x1, ex1, hm⟩ := cv_lt_s hm
  refine cv_topl ex1 ?_
  refine cv_lstore_n (i := 3) (lv' := [(3, .long x1), (2, .int (0 : Int32)), (0, .ref (q 0)), (1, .int a1)]) (q := 8) C dX4_limit_7 rfl (by decide) rfl rfl ?_
  refine cv_iload_n (i := 1) (q := 9) 3 C dX4_limit_8 rfl rfl rfl ?_
  refine cv_i2l (q := 10) C dX4_limit_9 rfl ?_
  refine cv_aload_n (i := 0) (q := 11) 2 C dX4_limit_10 rfl rfl rfl ?_
  refine cv_get (q := 14) C iX4_limit_X4 0 rfl rfl 6 (by decide) (List.mem_of_getElem? (i := 2) rfl) rfl rfl dX4_limit_11 rfl ?_
  refine cv_i2l (q := 15) C dX4_limit_14 rfl ?_
  refine cv_lmul (q := 16) C dX4_limit_15 rfl ?_
  obtain ⟨x2, ex2, hm⟩ := cv_lt_s hm
  refine cv_topl ex2 ?_
  refine cv_lstore (i := 5) (lv' := [(5, .long x2), (3, .long x1), (2, .int (0 : Int32)), (0, .ref (q 0)), (1, .int a1)]) (q := 18) C dX4_limit_16 (by decide) rfl rfl ?_
  obtain ⟨j8, hj8, hm⟩ := cv_bd_s hm
  refine cv_cut (ws' := (wX4 q cy S)) (pc' := 55) (lv' := [(2, .int j8)]) (st' := []) ?_ (fun K9 => ?_)
  · refine cv_iload_n (i := 2) (q := 56) 0 C dX4_limit_55 rfl rfl rfl ?_
    obtain rfl := Option.some.inj hm
    exact cv_iret C hr hk dX4_limit_56
  · refine cv_sub [3, 2, 1, 0] rfl ?_
    exact vX4_limit_L18 q S C 256 (0 : Int32) x1 x2 hj8 K9
def fX4_heavyPlace_L30 (S : SX4) : Nat → Int32 → Int32 → Option (Int32)
  | 0, _, _ => none
  | n + 1, y2, y3 =>
    if y3 < 0 then
      (
      some (-1 : Int32)
      )
    else
      (
      cv_gd (0 ≤ (y3).toInt ∧ (y3).toInt < 40) <|
      cv_gd (0 ≤ (((gX4_way S) (y3).toNatClampNeg)).toInt ∧ (((gX4_way S) (y3).toNatClampNeg)).toInt < 100) <|
      cv_lt ((((gX4_sizes S) (((gX4_way S) (y3).toNatClampNeg)).toNatClampNeg) + (1 : Int32))) fun x7 =>
      cv_lt (((x7 - (1 : Int32)) - y2)) fun x8 =>
      if ((gX4_b S) * (cv_max y2 x8)) ≤ ((gX4_a S) * x7) then
        (
        cv_lt (y3 + (-1 : Int32)) fun x10 =>
        fX4_heavyPlace_L30 S n x7 x10
        )
      else
        (
        some y3
        )
      )
def fX4_heavyPlace (S : SX4) (a1 : Int32) : Option (Int32) :=
  cv_bd (fX4_limit S ((gX4_number S) + (1 : Int32))) fun r1 =>
  if r1 < a1 then
    (
    cv_lt (((cv_min a1 (40 : Int32)) - (1 : Int32))) fun x3 =>
    fX4_heavyPlace_L30 S 256 (1 : Int32) x3
    )
  else
    (
    some (-1 : Int32)
    )
abbrev rX4_heavyPlace : Room := { frames := 1, cells := 0, slots := 0, locals := 26 }
theorem iX4_heavyPlace_X4 : ∀ w ∈ u_ws RX4 TX4 12, w ∈ wsX4_heavyPlace := fun w h => List.mem_cons_of_mem _ (List.mem_append_right _ h)
set_option maxHeartbeats 4000000 in
set_option maxRecDepth 100000 in
theorem vX4_heavyPlace_L30 {p : Program} {l : Launch} {e : Env} {s : State} {m : MethodId} {args : Array Value} {below : List Frame} {meth : Method} {c : Code} {σ : Nat → Nat} {D : va_G} {A : Nat → Prop} {cy : ClassId} (q : Nat → Nat) (S : SX4) (C : cv_C p s m args c cX4_heavyPlace 6 RX4 wsX4_heavyPlace σ D [(cy, .int)] A) (hr : meth.sig.returnType = some .int) (hk : meth.locks = false) {res : Int32} : ∀ (n : Nat) (y2 : Int32) (y3 : Int32), fX4_heavyPlace_L30 S n y2 y3 = some res → cv_V p l e rX4_heavyPlace s m args below meth c 6 D A (cv_Q below (some (.int res)) (wX4 q cy S) D [(cy, .int)] A args s) 0 0 (wX4 q cy S) 30 [(0, .ref (q 0)), (2, .int y2), (3, .int y3)] [] := by
  intro n
  induction n with
  | zero => intro y2 y3 hm; cases hm
  | succ n ih =>
    intro y2 y3 hm
    have hm : fX4_heavyPlace_L30 S (n + 1) y2 y3 = some res := hm
    unfold fX4_heavyPlace_L30 at hm
    refine cv_iload_n (i := 3) (q := 31) 2 C dX4_heavyPlace_30 rfl rfl rfl ?_
    refine cv_if_lt (tgt := 89) (q := 34) C dX4_heavyPlace_31 (by decide) rfl (fun h4 => ?_) (fun h4 => ?_)
    · have hm := cv_if_t h4 hm
      refine cv_iconst (v := -1) (q := 90) C dX4_heavyPlace_89 (by decide) rfl ?_
      obtain rfl := Option.some.inj hm
      exact cv_iret C hr hk dX4_heavyPlace_90
    · have hm := cv_if_f h4 hm
      refine cv_aload_n (i := 0) (q := 35) 0 C dX4_heavyPlace_34 rfl rfl rfl ?_
      refine cv_get (q := 38) C iX4_heavyPlace_X4 0 rfl rfl 2 (by decide) (List.mem_of_getElem? (i := 7) rfl) rfl rfl dX4_heavyPlace_35 rfl ?_
      refine cv_aload_n (i := 0) (q := 39) 0 C dX4_heavyPlace_38 rfl rfl rfl ?_
      refine cv_get (q := 42) C iX4_heavyPlace_X4 0 rfl rfl 3 (by decide) (List.mem_of_getElem? (i := 2) rfl) rfl rfl dX4_heavyPlace_39 rfl ?_
      refine cv_iload_n (i := 3) (q := 43) 2 C dX4_heavyPlace_42 rfl rfl rfl ?_
      obtain ⟨g5, hm⟩ := cv_gd_s hm
      refine cv_iald (q := 44) C 4 0 rfl rfl (vp_in_iff.mpr g5) dX4_heavyPlace_43 rfl ?_
      obtain ⟨g6, hm⟩ := cv_gd_s hm
      refine cv_iald (q := 45) C 3 0 rfl rfl (vp_in_iff.mpr g6) dX4_heavyPlace_44 rfl ?_
      refine cv_iconst (v := 1) (q := 46) C dX4_heavyPlace_45 (by decide) rfl ?_
      refine cv_iadd (q := 47) C dX4_heavyPlace_46 rfl ?_
      obtain ⟨x7, ex7, hm⟩ := cv_lt_s hm
      refine cv_topi ex7 ?_
      refine cv_istore (i := 4) (lv' := [(4, .int x7), (0, .ref (q 0)), (2, .int y2), (3, .int y3)]) (q := 49) C dX4_heavyPlace_47 (by decide) rfl rfl ?_
      refine cv_iload (i := 4) (q := 51) 0 C dX4_heavyPlace_49 rfl rfl ?_
      refine cv_iconst (v := 1) (q := 52) C dX4_heavyPlace_51 (by decide) rfl ?_
      refine cv_isub (q := 53) C dX4_heavyPlace_52 rfl ?_
      refine cv_iload_n (i := 2) (q := 54) 2 C dX4_heavyPlace_53 rfl rfl rfl ?_
      refine cv_isub (q := 55) C dX4_heavyPlace_54 rfl ?_
      obtain ⟨x8, ex8, hm⟩ := cv_lt_s hm
      refine cv_topi ex8 ?_
      refine cv_istore (i := 5) (lv' := [(5, .int x8), (4, .int x7), (0, .ref (q 0)), (2, .int y2), (3, .int y3)]) (q := 57) C dX4_heavyPlace_55 (by decide) rfl rfl ?_
      refine cv_aload_n (i := 0) (q := 58) 2 C dX4_heavyPlace_57 rfl rfl rfl ?_
      refine cv_get (q := 61) C iX4_heavyPlace_X4 0 rfl rfl 7 (by decide) (List.mem_of_getElem? (i := 8) rfl) rfl rfl dX4_heavyPlace_58 rfl ?_
      refine cv_iload_n (i := 2) (q := 62) 3 C dX4_heavyPlace_61 rfl rfl rfl ?_
      refine cv_iload (i := 5) (q := 64) 0 C dX4_heavyPlace_62 rfl rfl ?_
      refine cv_mmax (q := 67) C (List.mem_of_getElem? (i := 9) rfl) (List.mem_of_getElem? (i := 10) rfl) (List.mem_of_getElem? (i := 5) rfl) (List.mem_of_getElem? (i := 11) rfl) (Nat.le_of_ble_eq_true rfl) (Nat.le_of_ble_eq_true rfl) dX4_heavyPlace_64 rfl (Nat.zero_le _) (Nat.zero_le _) ?_
      refine cv_imul (q := 68) C dX4_heavyPlace_67 rfl ?_
      refine cv_aload_n (i := 0) (q := 69) 2 C dX4_heavyPlace_68 rfl rfl rfl ?_
      refine cv_get (q := 72) C iX4_heavyPlace_X4 0 rfl rfl 6 (by decide) (List.mem_of_getElem? (i := 12) rfl) rfl rfl dX4_heavyPlace_69 rfl ?_
      refine cv_iload (i := 4) (q := 74) 1 C dX4_heavyPlace_72 rfl rfl ?_
      refine cv_imul (q := 75) C dX4_heavyPlace_74 rfl ?_
      refine cv_icmp_le (tgt := 80) (q := 78) C dX4_heavyPlace_75 (by decide) rfl (fun h9 => ?_) (fun h9 => ?_)
      · have hm := cv_if_t h9 hm
        refine cv_iload (i := 4) (q := 82) 1 C dX4_heavyPlace_80 rfl rfl ?_
        refine cv_istore_n (i := 2) (lv' := [(2, .int x7), (5, .int x8), (4, .int x7), (0, .ref (q 0)), (3, .int y3)]) (q := 83) C dX4_heavyPlace_82 rfl (by decide) rfl rfl ?_
        obtain ⟨x10, ex10, hm⟩ := cv_lt_s hm
        refine cv_iinc (v := x10) (lv' := [(3, .int x10), (2, .int x7), (5, .int x8), (4, .int x7), (0, .ref (q 0))]) (q := 86) 4 C dX4_heavyPlace_83 rfl (by rw [ex10]; rfl) (by decide) rfl rfl ?_
        refine cv_goto (tgt := 30) C dX4_heavyPlace_86 (by decide) ?_
        refine cv_sub [4, 1, 0] rfl ?_
        exact ih x7 x10 hm
      · have hm := cv_if_f h9 hm
        refine cv_iload_n (i := 3) (q := 79) 4 C dX4_heavyPlace_78 rfl rfl rfl ?_
        obtain rfl := Option.some.inj hm
        exact cv_iret C hr hk dX4_heavyPlace_79
set_option maxHeartbeats 4000000 in
set_option maxRecDepth 100000 in
theorem KX4_heavyPlace {l : Launch} {σ : Nat → Nat} {D : va_G} {cy : ClassId} (q : Nat → Nat) (S : SX4) (a1 : Int32) {res : Int32} (hm : fX4_heavyPlace S a1 = some res) : cv_M l yX4_heavyPlace wsX4_heavyPlace rX4_heavyPlace σ D [(cy, .int)] [.ref (q 0), .int a1] (wX4 q cy S) (some (.int res)) (wX4 q cy S) := by
  unfold fX4_heavyPlace at hm
  refine cv_M.of (own := RX4) (by decide +kernel) rfl rfl (lv := [(0, .ref (q 0)), (1, .int a1)]) rfl (Nat.le_of_ble_eq_true rfl) ?_
  intro p e s m args below meth c A C hr hk
  refine cv_iload_n (i := 1) (q := 1) 1 C dX4_heavyPlace_0 rfl rfl rfl ?_
  refine cv_aload_n (i := 0) (q := 2) 0 C dX4_heavyPlace_1 rfl rfl rfl ?_
  refine cv_aload_n (i := 0) (q := 3) 0 C dX4_heavyPlace_2 rfl rfl rfl ?_
  refine cv_get (q := 6) C iX4_heavyPlace_X4 0 rfl rfl 8 (by decide) (List.mem_of_getElem? (i := 1) rfl) rfl rfl dX4_heavyPlace_3 rfl ?_
  refine cv_iconst (v := 1) (q := 7) C dX4_heavyPlace_6 (by decide) rfl ?_
  refine cv_iadd (q := 8) C dX4_heavyPlace_7 rfl ?_
  obtain ⟨r1, hr1, hm⟩ := cv_bd_s hm
  refine cv_goW (q := 11) C (KX4_limit (l := l) (σ := σ) (D := D) (cy := cy)  q  S ((gX4_number S) + (1 : Int32)) hr1) (cv_rv (As := [.int ((gX4_number S) + (1 : Int32))]) (st := [.int a1]) (n := 1) (q0 := 0) (ci := 4) C (KX4_limit (l := l) (σ := σ) (D := D) (cy := cy)  q  S ((gX4_number S) + (1 : Int32)) hr1) rfl rfl gX4_heavyPlace_X4_limit rfl ⟨rfl, rfl⟩ (by decide +kernel) rfl ⟨Nat.le_of_ble_eq_true rfl, Nat.le_of_ble_eq_true rfl⟩ rfl (Nat.le_of_ble_eq_true rfl) dX4_heavyPlace_8 ⟨Nat.zero_le _, Nat.zero_le _⟩) rfl ?_
  refine cv_icmp_gt (tgt := 16) (q := 14) C dX4_heavyPlace_11 (by decide) rfl (fun h2 => ?_) (fun h2 => ?_)
  · have hm := cv_if_t h2 hm
    refine cv_iconst (v := 1) (q := 17) C dX4_heavyPlace_16 (by decide) rfl ?_
    refine cv_istore_n (i := 2) (lv' := [(2, .int (1 : Int32)), (0, .ref (q 0)), (1, .int a1)]) (q := 18) C dX4_heavyPlace_17 rfl (by decide) rfl rfl ?_
    refine cv_iload_n (i := 1) (q := 19) 2 C dX4_heavyPlace_18 rfl rfl rfl ?_
    refine cv_aload_n (i := 0) (q := 20) 1 C dX4_heavyPlace_19 rfl rfl rfl ?_
    refine cv_get (q := 23) C iX4_heavyPlace_X4 0 rfl rfl 3 (by decide) (List.mem_of_getElem? (i := 2) rfl) rfl rfl dX4_heavyPlace_20 rfl ?_
    refine cv_alen (v := 40) (q := 24) C 4 0 rfl rfl (by decide) dX4_heavyPlace_23 rfl ?_
    refine cv_mmin (q := 27) C (List.mem_of_getElem? (i := 3) rfl) (List.mem_of_getElem? (i := 4) rfl) (List.mem_of_getElem? (i := 5) rfl) (List.mem_of_getElem? (i := 6) rfl) (Nat.le_of_ble_eq_true rfl) (Nat.le_of_ble_eq_true rfl) dX4_heavyPlace_24 rfl (Nat.zero_le _) (Nat.zero_le _) ?_
    refine cv_iconst (v := 1) (q := 28) C dX4_heavyPlace_27 (by decide) rfl ?_
    refine cv_isub (q := 29) C dX4_heavyPlace_28 rfl ?_
    obtain ⟨x3, ex3, hm⟩ := cv_lt_s hm
    refine cv_topi ex3 ?_
    refine cv_istore_n (i := 3) (lv' := [(3, .int x3), (2, .int (1 : Int32)), (0, .ref (q 0)), (1, .int a1)]) (q := 30) C dX4_heavyPlace_29 rfl (by decide) rfl rfl ?_
    refine cv_sub [2, 1, 0] rfl ?_
    exact vX4_heavyPlace_L30 q S C hr hk 256 (1 : Int32) x3 hm
  · have hm := cv_if_f h2 hm
    refine cv_iconst (v := -1) (q := 15) C dX4_heavyPlace_14 (by decide) rfl ?_
    obtain rfl := Option.some.inj hm
    exact cv_iret C hr hk dX4_heavyPlace_15
def fX4_changeSizes_L2 (u1 : Int32) (u2 : Int32) : Nat → Int32 → SX4 → Option (SX4)
  | 0, _, _ => none
  | n + 1, y3, S =>
    if u1 ≤ y3 then
      (
      some S
      )
    else
      (
      if (40 : Int32) ≤ y3 then
        (
        some S
        )
      else
        (
        cv_gd (0 ≤ (y3).toInt ∧ (y3).toInt < 40) <|
        cv_gd (0 ≤ (((gX4_way S) (y3).toNatClampNeg)).toInt ∧ (((gX4_way S) (y3).toNatClampNeg)).toInt < 100) <|
        cv_gd (0 ≤ (((gX4_way S) (y3).toNatClampNeg)).toInt ∧ (((gX4_way S) (y3).toNatClampNeg)).toInt < 100) <|
        cv_lt (sX4_sizes S (upd (gX4_sizes S) (((gX4_way S) (y3).toNatClampNeg)).toNatClampNeg (((gX4_sizes S) (((gX4_way S) (y3).toNatClampNeg)).toNatClampNeg) + u2))) fun s6 =>
        cv_lt (y3 + (1 : Int32)) fun x7 =>
        fX4_changeSizes_L2 u1 u2 n x7 s6
        )
      )
def fX4_changeSizes (S : SX4) (a1 : Int32) (a2 : Int32) : Option (SX4) :=
  cv_bd (fX4_changeSizes_L2 a1 a2 256 (0 : Int32) S) fun j8 =>
  some j8
abbrev rX4_changeSizes : Room := { frames := 0, cells := 0, slots := 0, locals := 0 }
theorem iX4_changeSizes_X4 : ∀ w ∈ u_ws RX4 TX4 12, w ∈ wsX4_changeSizes := fun w h => List.mem_cons_of_mem _ (List.mem_append_right _ h)
set_option maxHeartbeats 4000000 in
set_option maxRecDepth 100000 in
theorem vX4_changeSizes_L2 {p : Program} {l : Launch} {e : Env} {s : State} {m : MethodId} {args : Array Value} {below : List Frame} {meth : Method} {c : Code} {σ : Nat → Nat} {D : va_G} {A : Nat → Prop} {cy : ClassId} (q : Nat → Nat) (u1 : Int32) (u2 : Int32) (C : cv_C p s m args c cX4_changeSizes 4 RX4 wsX4_changeSizes σ D [(cy, .int)] A) {Q : State → Prop} {j : SX4} : ∀ (n : Nat) (y3 : Int32) (S : SX4), fX4_changeSizes_L2 u1 u2 n y3 S = some j → cv_V p l e rX4_changeSizes s m args below meth c 4 D A Q 0 0 (wX4 q cy j) 37 [] [] → cv_V p l e rX4_changeSizes s m args below meth c 4 D A Q 0 0 (wX4 q cy S) 2 [(0, .ref (q 0)), (1, .int u1), (2, .int u2), (3, .int y3)] [] := by
  intro n
  induction n with
  | zero => intro y3 S hm kx; cases hm
  | succ n ih =>
    intro y3 S hm kx
    have hm : fX4_changeSizes_L2 u1 u2 (n + 1) y3 S = some j := hm
    unfold fX4_changeSizes_L2 at hm
    refine cv_iload_n (i := 3) (q := 3) 3 C dX4_changeSizes_2 rfl rfl rfl ?_
    refine cv_iload_n (i := 1) (q := 4) 1 C dX4_changeSizes_3 rfl rfl rfl ?_
    refine cv_icmp_ge (tgt := 37) (q := 7) C dX4_changeSizes_4 (by decide) rfl (fun h1 => ?_) (fun h1 => ?_)
    · have hm := cv_if_t h1 hm
      obtain rfl := Option.some.inj hm
      refine cv_sub [] rfl ?_
      exact kx
    · have hm := cv_if_f h1 hm
      refine cv_iload_n (i := 3) (q := 8) 3 C dX4_changeSizes_7 rfl rfl rfl ?_
      refine cv_aload_n (i := 0) (q := 9) 0 C dX4_changeSizes_8 rfl rfl rfl ?_
      refine cv_get (q := 12) C iX4_changeSizes_X4 0 rfl rfl 3 (by decide) (List.mem_of_getElem? (i := 1) rfl) rfl rfl dX4_changeSizes_9 rfl ?_
      refine cv_alen (v := 40) (q := 13) C 4 0 rfl rfl (by decide) dX4_changeSizes_12 rfl ?_
      refine cv_icmp_ge (tgt := 37) (q := 16) C dX4_changeSizes_13 (by decide) rfl (fun h2 => ?_) (fun h2 => ?_)
      · have hm := cv_if_t h2 hm
        obtain rfl := Option.some.inj hm
        refine cv_sub [] rfl ?_
        exact kx
      · have hm := cv_if_f h2 hm
        refine cv_aload_n (i := 0) (q := 17) 0 C dX4_changeSizes_16 rfl rfl rfl ?_
        refine cv_get (q := 20) C iX4_changeSizes_X4 0 rfl rfl 2 (by decide) (List.mem_of_getElem? (i := 2) rfl) rfl rfl dX4_changeSizes_17 rfl ?_
        refine cv_aload_n (i := 0) (q := 21) 0 C dX4_changeSizes_20 rfl rfl rfl ?_
        refine cv_get (q := 24) C iX4_changeSizes_X4 0 rfl rfl 3 (by decide) (List.mem_of_getElem? (i := 1) rfl) rfl rfl dX4_changeSizes_21 rfl ?_
        refine cv_iload_n (i := 3) (q := 25) 3 C dX4_changeSizes_24 rfl rfl rfl ?_
        obtain ⟨g3, hm⟩ := cv_gd_s hm
        refine cv_iald (q := 26) C 4 0 rfl rfl (vp_in_iff.mpr g3) dX4_changeSizes_25 rfl ?_
        refine cv_dup2 (q := 27) C dX4_changeSizes_26 rfl rfl rfl ?_
        obtain ⟨g4, hm⟩ := cv_gd_s hm
        refine cv_iald (q := 28) C 3 0 rfl rfl (vp_in_iff.mpr g4) dX4_changeSizes_27 rfl ?_
        refine cv_iload_n (i := 2) (q := 29) 2 C dX4_changeSizes_28 rfl rfl rfl ?_
        refine cv_iadd (q := 30) C dX4_changeSizes_29 rfl ?_
        obtain ⟨g5, hm⟩ := cv_gd_s hm
        obtain ⟨s6, es6, hm⟩ := cv_lt_s hm
        refine cv_iast (q := 31) (ws' := (wX4 q cy s6)) C 3 0 rfl rfl (vp_in_iff.mpr g5) dX4_changeSizes_30 rfl (by rw [es6]; rfl) ?_
        obtain ⟨x7, ex7, hm⟩ := cv_lt_s hm
        refine cv_iinc (v := x7) (lv' := [(3, .int x7), (0, .ref (q 0)), (1, .int u1), (2, .int u2)]) (q := 34) 3 C dX4_changeSizes_31 rfl (by rw [ex7]; rfl) (by decide) rfl rfl ?_
        refine cv_goto (tgt := 2) C dX4_changeSizes_34 (by decide) ?_
        refine cv_sub [1, 2, 3, 0] rfl ?_
        exact ih x7 s6 hm kx
set_option maxHeartbeats 4000000 in
set_option maxRecDepth 100000 in
theorem KX4_changeSizes {l : Launch} {σ : Nat → Nat} {D : va_G} {cy : ClassId} (q : Nat → Nat) (S : SX4) (a1 : Int32) (a2 : Int32) {res : SX4} (hm : fX4_changeSizes S a1 a2 = some res) : cv_M l yX4_changeSizes wsX4_changeSizes rX4_changeSizes σ D [(cy, .int)] [.ref (q 0), .int a1, .int a2] (wX4 q cy S) none (wX4 q cy res) := by
  unfold fX4_changeSizes at hm
  refine cv_M.of (own := RX4) (by decide +kernel) rfl rfl (lv := [(0, .ref (q 0)), (1, .int a1), (2, .int a2)]) rfl (Nat.le_of_ble_eq_true rfl) ?_
  intro p e s m args below meth c A C hr hk
  refine cv_iconst (v := 0) (q := 1) C dX4_changeSizes_0 (by decide) rfl ?_
  refine cv_istore_n (i := 3) (lv' := [(3, .int (0 : Int32)), (0, .ref (q 0)), (1, .int a1), (2, .int a2)]) (q := 2) C dX4_changeSizes_1 rfl (by decide) rfl rfl ?_
  obtain ⟨j8, hj8, hm⟩ := cv_bd_s hm
  refine cv_cut (ws' := (wX4 q cy j8)) (pc' := 37) (lv' := []) (st' := []) ?_ (fun K9 => ?_)
  · obtain rfl := Option.some.inj hm
    exact cv_vret C hr hk dX4_changeSizes_37
  · refine cv_sub [1, 2, 3, 0] rfl ?_
    exact vX4_changeSizes_L2 q a1 a2 C 256 (0 : Int32) S hj8 K9
def fX4_onWay (S : SX4) (a1 : Int32) : Option (Int32) :=
  if a1 < 0 then
    (
    some (-1 : Int32)
    )
  else
    (
    if (40 : Int32) ≤ a1 then
      (
      some (-1 : Int32)
      )
    else
      (
      cv_gd (0 ≤ (a1).toInt ∧ (a1).toInt < 40) <|
      some ((gX4_way S) (a1).toNatClampNeg)
      )
    )
abbrev rX4_onWay : Room := { frames := 0, cells := 0, slots := 0, locals := 0 }
theorem iX4_onWay_X4 : ∀ w ∈ u_ws RX4 TX4 12, w ∈ wsX4_onWay := fun w h => List.mem_cons_of_mem _ (List.mem_append_right _ h)
set_option maxHeartbeats 4000000 in
set_option maxRecDepth 100000 in
theorem KX4_onWay {l : Launch} {σ : Nat → Nat} {D : va_G} {cy : ClassId} (q : Nat → Nat) (S : SX4) (a1 : Int32) {res : Int32} (hm : fX4_onWay S a1 = some res) : cv_M l yX4_onWay wsX4_onWay rX4_onWay σ D [(cy, .int)] [.ref (q 0), .int a1] (wX4 q cy S) (some (.int res)) (wX4 q cy S) := by
  unfold fX4_onWay at hm
  refine cv_M.of (own := RX4) (by decide +kernel) rfl rfl (lv := [(0, .ref (q 0)), (1, .int a1)]) rfl (Nat.le_of_ble_eq_true rfl) ?_
  intro p e s m args below meth c A C hr hk
  refine cv_iload_n (i := 1) (q := 1) 1 C dX4_onWay_0 rfl rfl rfl ?_
  refine cv_if_lt (tgt := 22) (q := 4) C dX4_onWay_1 (by decide) rfl (fun h1 => ?_) (fun h1 => ?_)
  · have hm := cv_if_t h1 hm
    refine cv_iconst (v := -1) (q := 23) C dX4_onWay_22 (by decide) rfl ?_
    obtain rfl := Option.some.inj hm
    exact cv_iret C hr hk dX4_onWay_23
  · have hm := cv_if_f h1 hm
    refine cv_iload_n (i := 1) (q := 5) 1 C dX4_onWay_4 rfl rfl rfl ?_
    refine cv_aload_n (i := 0) (q := 6) 0 C dX4_onWay_5 rfl rfl rfl ?_
    refine cv_get (q := 9) C iX4_onWay_X4 0 rfl rfl 3 (by decide) (List.mem_of_getElem? (i := 1) rfl) rfl rfl dX4_onWay_6 rfl ?_
    refine cv_alen (v := 40) (q := 10) C 4 0 rfl rfl (by decide) dX4_onWay_9 rfl ?_
    refine cv_icmp_ge (tgt := 22) (q := 13) C dX4_onWay_10 (by decide) rfl (fun h2 => ?_) (fun h2 => ?_)
    · have hm := cv_if_t h2 hm
      refine cv_iconst (v := -1) (q := 23) C dX4_onWay_22 (by decide) rfl ?_
      obtain rfl := Option.some.inj hm
      exact cv_iret C hr hk dX4_onWay_23
    · have hm := cv_if_f h2 hm
      refine cv_aload_n (i := 0) (q := 14) 0 C dX4_onWay_13 rfl rfl rfl ?_
      refine cv_get (q := 17) C iX4_onWay_X4 0 rfl rfl 3 (by decide) (List.mem_of_getElem? (i := 1) rfl) rfl rfl dX4_onWay_14 rfl ?_
      refine cv_iload_n (i := 1) (q := 18) 1 C dX4_onWay_17 rfl rfl rfl ?_
      obtain ⟨g3, hm⟩ := cv_gd_s hm
      refine cv_iald (q := 19) C 4 0 rfl rfl (vp_in_iff.mpr g3) dX4_onWay_18 rfl ?_
      refine cv_goto (tgt := 23) C dX4_onWay_19 (by decide) ?_
      obtain rfl := Option.some.inj hm
      exact cv_iret C hr hk dX4_onWay_23
def fX4_hang (S : SX4) (a1 : Int32) (a2 : Int32) (a3 : Int32) : Option (SX4) :=
  if a1 = (-1 : Int32) then
    (
    cv_lt (sX4_root S a3) fun s7 =>
    some s7
    )
  else
    (
    if a1 ≤ a2 then
      (
      cv_gd (0 ≤ (a1).toInt ∧ (a1).toInt < 100) <|
      cv_lt (sX4_rights S (upd (gX4_rights S) (a1).toNatClampNeg a3)) fun s4 =>
      some s4
      )
    else
      (
      cv_gd (0 ≤ (a1).toInt ∧ (a1).toInt < 100) <|
      cv_lt (sX4_lefts S (upd (gX4_lefts S) (a1).toNatClampNeg a3)) fun s6 =>
      some s6
      )
    )
abbrev rX4_hang : Room := { frames := 0, cells := 0, slots := 0, locals := 0 }
theorem iX4_hang_X4 : ∀ w ∈ u_ws RX4 TX4 12, w ∈ wsX4_hang := fun w h => List.mem_cons_of_mem _ (List.mem_append_right _ h)
set_option maxHeartbeats 4000000 in
set_option maxRecDepth 100000 in
theorem KX4_hang {l : Launch} {σ : Nat → Nat} {D : va_G} {cy : ClassId} (q : Nat → Nat) (S : SX4) (a1 : Int32) (a2 : Int32) (a3 : Int32) {res : SX4} (hm : fX4_hang S a1 a2 a3 = some res) : cv_M l yX4_hang wsX4_hang rX4_hang σ D [(cy, .int)] [.ref (q 0), .int a1, .int a2, .int a3] (wX4 q cy S) none (wX4 q cy res) := by
  unfold fX4_hang at hm
  refine cv_M.of (own := RX4) (by decide +kernel) rfl rfl (lv := [(0, .ref (q 0)), (1, .int a1), (2, .int a2), (3, .int a3)]) rfl (Nat.le_of_ble_eq_true rfl) ?_
  intro p e s m args below meth c A C hr hk
  refine cv_iload_n (i := 1) (q := 1) 1 C dX4_hang_0 rfl rfl rfl ?_
  refine cv_iconst (v := -1) (q := 2) C dX4_hang_1 (by decide) rfl ?_
  refine cv_icmp_ne (tgt := 13) (q := 5) C dX4_hang_2 (by decide) rfl (fun h1 => ?_) (fun h1 => ?_)
  · have hm := cv_if_f h1 hm
    refine cv_iload_n (i := 2) (q := 14) 2 C dX4_hang_13 rfl rfl rfl ?_
    refine cv_iload_n (i := 1) (q := 15) 1 C dX4_hang_14 rfl rfl rfl ?_
    refine cv_icmp_ge (tgt := 28) (q := 18) C dX4_hang_15 (by decide) rfl (fun h2 => ?_) (fun h2 => ?_)
    · have hm := cv_if_t h2 hm
      refine cv_aload_n (i := 0) (q := 29) 0 C dX4_hang_28 rfl rfl rfl ?_
      refine cv_get (q := 32) C iX4_hang_X4 0 rfl rfl 1 (by decide) (List.mem_of_getElem? (i := 3) rfl) rfl rfl dX4_hang_29 rfl ?_
      refine cv_iload_n (i := 1) (q := 33) 1 C dX4_hang_32 rfl rfl rfl ?_
      refine cv_iload_n (i := 3) (q := 34) 3 C dX4_hang_33 rfl rfl rfl ?_
      obtain ⟨g3, hm⟩ := cv_gd_s hm
      obtain ⟨s4, es4, hm⟩ := cv_lt_s hm
      refine cv_iast (q := 35) (ws' := (wX4 q cy s4)) C 2 0 rfl rfl (vp_in_iff.mpr g3) dX4_hang_34 rfl (by rw [es4]; rfl) ?_
      obtain rfl := Option.some.inj hm
      exact cv_vret C hr hk dX4_hang_35
    · have hm := cv_if_f h2 hm
      refine cv_aload_n (i := 0) (q := 19) 0 C dX4_hang_18 rfl rfl rfl ?_
      refine cv_get (q := 22) C iX4_hang_X4 0 rfl rfl 0 (by decide) (List.mem_of_getElem? (i := 2) rfl) rfl rfl dX4_hang_19 rfl ?_
      refine cv_iload_n (i := 1) (q := 23) 1 C dX4_hang_22 rfl rfl rfl ?_
      refine cv_iload_n (i := 3) (q := 24) 3 C dX4_hang_23 rfl rfl rfl ?_
      obtain ⟨g5, hm⟩ := cv_gd_s hm
      obtain ⟨s6, es6, hm⟩ := cv_lt_s hm
      refine cv_iast (q := 25) (ws' := (wX4 q cy s6)) C 1 0 rfl rfl (vp_in_iff.mpr g5) dX4_hang_24 rfl (by rw [es6]; rfl) ?_
      refine cv_goto (tgt := 35) C dX4_hang_25 (by decide) ?_
      obtain rfl := Option.some.inj hm
      exact cv_vret C hr hk dX4_hang_35
  · have hm := cv_if_t h1 hm
    refine cv_aload_n (i := 0) (q := 6) 0 C dX4_hang_5 rfl rfl rfl ?_
    refine cv_iload_n (i := 3) (q := 7) 3 C dX4_hang_6 rfl rfl rfl ?_
    obtain ⟨s7, es7, hm⟩ := cv_lt_s hm
    refine cv_put (q := 10) (ws' := (wX4 q cy s7)) C iX4_hang_X4 tyX4 tyX4_ok nmX4 0 rfl rfl 5 (by decide) (List.mem_of_getElem? (i := 1) rfl) rfl rfl rfl rfl rfl (Nat.le_of_ble_eq_true rfl) dX4_hang_7 rfl (by rw [es7]; rfl) ?_
    refine cv_goto (tgt := 35) C dX4_hang_10 (by decide) ?_
    obtain rfl := Option.some.inj hm
    exact cv_vret C hr hk dX4_hang_35
def fX4_gather_L8 (S : SX4) (u1 : Int32) : Nat → Int32 → Int32 → Int32 → Option (Int32 × Int32)
  | 0, _, _, _ => none
  | n + 1, y2, y3, y4 =>
    if u1 ≤ y4 then
      (
      some (y2, y3)
      )
    else
      (
      cv_gd (0 ≤ (y4).toInt ∧ (y4).toInt < 40) <|
      cv_gd (0 ≤ (u1).toInt ∧ (u1).toInt < 40) <|
      cv_bd (
        if ((gX4_way S) (u1).toNatClampNeg) ≤ ((gX4_way S) (y4).toNatClampNeg) then
          (
          cv_gd (0 ≤ (y4).toInt ∧ (y4).toInt < 40) <|
          cv_lt (((gX4_way S) (y4).toNatClampNeg)) fun x9 =>
          some (y2, x9)
          )
        else
          (
          cv_gd (0 ≤ (y4).toInt ∧ (y4).toInt < 40) <|
          cv_lt (((gX4_way S) (y4).toNatClampNeg)) fun x11 =>
          some (x11, y3)
          )
      ) fun j4 =>
      cv_lt (y4 + (1 : Int32)) fun x6 =>
      fX4_gather_L8 S u1 n j4.1 j4.2 x6
      )
def fX4_gather_L63 (u3 : Int32) : Nat → Int32 → Int32 → SX4 → Option (Int32 × SX4)
  | 0, _, _, _ => none
  | n + 1, y4, y5, S =>
    if u3 ≤ y5 then
      (
      some (y4, S)
      )
    else
      (
      if (40 : Int32) ≤ y4 then
        (
        some (y4, S)
        )
      else
        (
        cv_gd (0 ≤ (y5).toInt ∧ (y5).toInt < 100) <|
        cv_bd (
          if ((gX4_sizes S) (y5).toNatClampNeg) ≤ 0 then
            (
            some (y4, S)
            )
          else
            (
            cv_gd (0 ≤ (y4).toInt ∧ (y4).toInt < 40) <|
            cv_lt (sX4_row S (upd (gX4_row S) (y4).toNatClampNeg y5)) fun s23 =>
            cv_lt (y4 + (1 : Int32)) fun x24 =>
            some (x24, s23)
            )
        ) fun j18 =>
        cv_lt (y5 + (1 : Int32)) fun x20 =>
        fX4_gather_L63 u3 n j18.1 x20 j18.2
        )
      )
def fX4_gather (S : SX4) (a1 : Int32) : Option (Int32 × SX4) :=
  cv_bd (fX4_gather_L8 S a1 256 (-1 : Int32) (100 : Int32) (0 : Int32)) fun j12 =>
  cv_lt ((j12.1 + (1 : Int32))) fun x14 =>
  cv_bd (fX4_gather_L63 j12.2 256 (0 : Int32) x14 S) fun j25 =>
  some (j25.1, j25.2)
abbrev rX4_gather : Room := { frames := 0, cells := 0, slots := 0, locals := 0 }
theorem iX4_gather_X4 : ∀ w ∈ u_ws RX4 TX4 12, w ∈ wsX4_gather := fun w h => List.mem_cons_of_mem _ (List.mem_append_right _ h)
set_option maxHeartbeats 4000000 in
set_option maxRecDepth 100000 in
theorem vX4_gather_L8 {p : Program} {l : Launch} {e : Env} {s : State} {m : MethodId} {args : Array Value} {below : List Frame} {meth : Method} {c : Code} {σ : Nat → Nat} {D : va_G} {A : Nat → Prop} {cy : ClassId} (q : Nat → Nat) (S : SX4) (u1 : Int32) (C : cv_C p s m args c cX4_gather 6 RX4 wsX4_gather σ D [(cy, .int)] A) {Q : State → Prop} {j : Int32 × Int32} : ∀ (n : Nat) (y2 : Int32) (y3 : Int32) (y4 : Int32), fX4_gather_L8 S u1 n y2 y3 y4 = some j → cv_V p l e rX4_gather s m args below meth c 6 D A Q 0 0 (wX4 q cy S) 55 [(0, .ref (q 0)), (2, .int j.1), (3, .int j.2)] [] → cv_V p l e rX4_gather s m args below meth c 6 D A Q 0 0 (wX4 q cy S) 8 [(0, .ref (q 0)), (1, .int u1), (2, .int y2), (3, .int y3), (4, .int y4)] [] := by
  intro n
  induction n with
  | zero => intro y2 y3 y4 hm kx; cases hm
  | succ n ih =>
    intro y2 y3 y4 hm kx
    have hm : fX4_gather_L8 S u1 (n + 1) y2 y3 y4 = some j := hm
    unfold fX4_gather_L8 at hm
    refine cv_iload (i := 4) (q := 10) 4 C dX4_gather_8 rfl rfl ?_
    refine cv_iload_n (i := 1) (q := 11) 1 C dX4_gather_10 rfl rfl rfl ?_
    refine cv_icmp_ge (tgt := 55) (q := 14) C dX4_gather_11 (by decide) rfl (fun h1 => ?_) (fun h1 => ?_)
    · have hm := cv_if_t h1 hm
      obtain rfl := Option.some.inj hm
      refine cv_sub [0, 2, 3] rfl ?_
      exact kx
    · have hm := cv_if_f h1 hm
      refine cv_aload_n (i := 0) (q := 15) 0 C dX4_gather_14 rfl rfl rfl ?_
      refine cv_get (q := 18) C iX4_gather_X4 0 rfl rfl 3 (by decide) (List.mem_of_getElem? (i := 1) rfl) rfl rfl dX4_gather_15 rfl ?_
      refine cv_iload (i := 4) (q := 20) 4 C dX4_gather_18 rfl rfl ?_
      obtain ⟨g2, hm⟩ := cv_gd_s hm
      refine cv_iald (q := 21) C 4 0 rfl rfl (vp_in_iff.mpr g2) dX4_gather_20 rfl ?_
      refine cv_aload_n (i := 0) (q := 22) 0 C dX4_gather_21 rfl rfl rfl ?_
      refine cv_get (q := 25) C iX4_gather_X4 0 rfl rfl 3 (by decide) (List.mem_of_getElem? (i := 1) rfl) rfl rfl dX4_gather_22 rfl ?_
      refine cv_iload_n (i := 1) (q := 26) 1 C dX4_gather_25 rfl rfl rfl ?_
      obtain ⟨g3, hm⟩ := cv_gd_s hm
      refine cv_iald (q := 27) C 4 0 rfl rfl (vp_in_iff.mpr g3) dX4_gather_26 rfl ?_
      obtain ⟨j4, hj4, hm⟩ := cv_bd_s hm
      refine cv_cut (ws' := (wX4 q cy S)) (pc' := 49) (lv' := [(0, .ref (q 0)), (1, .int u1), (2, .int j4.1), (3, .int j4.2), (4, .int y4)]) (st' := []) ?_ (fun K5 => ?_)
      · obtain ⟨x6, ex6, hm⟩ := cv_lt_s hm
        refine cv_iinc (v := x6) (lv' := [(4, .int x6), (0, .ref (q 0)), (1, .int u1), (2, .int j4.1), (3, .int j4.2)]) (q := 52) 4 C dX4_gather_49 rfl (by rw [ex6]; rfl) (by decide) rfl rfl ?_
        refine cv_goto (tgt := 8) C dX4_gather_52 (by decide) ?_
        refine cv_sub [1, 2, 3, 4, 0] rfl ?_
        exact ih j4.1 j4.2 x6 hm kx
      · have hm := hj4
        refine cv_icmp_ge (tgt := 41) (q := 30) C dX4_gather_27 (by decide) rfl (fun h7 => ?_) (fun h7 => ?_)
        · have hm := cv_if_t h7 hm
          refine cv_aload_n (i := 0) (q := 42) 0 C dX4_gather_41 rfl rfl rfl ?_
          refine cv_get (q := 45) C iX4_gather_X4 0 rfl rfl 3 (by decide) (List.mem_of_getElem? (i := 1) rfl) rfl rfl dX4_gather_42 rfl ?_
          refine cv_iload (i := 4) (q := 47) 4 C dX4_gather_45 rfl rfl ?_
          obtain ⟨g8, hm⟩ := cv_gd_s hm
          refine cv_iald (q := 48) C 4 0 rfl rfl (vp_in_iff.mpr g8) dX4_gather_47 rfl ?_
          obtain ⟨x9, ex9, hm⟩ := cv_lt_s hm
          refine cv_topi ex9 ?_
          refine cv_istore_n (i := 3) (lv' := [(3, .int x9), (0, .ref (q 0)), (1, .int u1), (2, .int y2), (4, .int y4)]) (q := 49) C dX4_gather_48 rfl (by decide) rfl rfl ?_
          obtain rfl := Option.some.inj hm
          refine cv_sub [1, 2, 3, 0, 4] rfl ?_
          exact K5
        · have hm := cv_if_f h7 hm
          refine cv_aload_n (i := 0) (q := 31) 0 C dX4_gather_30 rfl rfl rfl ?_
          refine cv_get (q := 34) C iX4_gather_X4 0 rfl rfl 3 (by decide) (List.mem_of_getElem? (i := 1) rfl) rfl rfl dX4_gather_31 rfl ?_
          refine cv_iload (i := 4) (q := 36) 4 C dX4_gather_34 rfl rfl ?_
          obtain ⟨g10, hm⟩ := cv_gd_s hm
          refine cv_iald (q := 37) C 4 0 rfl rfl (vp_in_iff.mpr g10) dX4_gather_36 rfl ?_
          obtain ⟨x11, ex11, hm⟩ := cv_lt_s hm
          refine cv_topi ex11 ?_
          refine cv_istore_n (i := 2) (lv' := [(2, .int x11), (0, .ref (q 0)), (1, .int u1), (3, .int y3), (4, .int y4)]) (q := 38) C dX4_gather_37 rfl (by decide) rfl rfl ?_
          refine cv_goto (tgt := 49) C dX4_gather_38 (by decide) ?_
          obtain rfl := Option.some.inj hm
          refine cv_sub [1, 2, 0, 3, 4] rfl ?_
          exact K5
set_option maxHeartbeats 4000000 in
set_option maxRecDepth 100000 in
theorem vX4_gather_L63 {p : Program} {l : Launch} {e : Env} {s : State} {m : MethodId} {args : Array Value} {below : List Frame} {meth : Method} {c : Code} {σ : Nat → Nat} {D : va_G} {A : Nat → Prop} {cy : ClassId} (q : Nat → Nat) (u3 : Int32) (C : cv_C p s m args c cX4_gather 6 RX4 wsX4_gather σ D [(cy, .int)] A) {Q : State → Prop} {j : Int32 × SX4} : ∀ (n : Nat) (y4 : Int32) (y5 : Int32) (S : SX4), fX4_gather_L63 u3 n y4 y5 S = some j → cv_V p l e rX4_gather s m args below meth c 6 D A Q 0 0 (wX4 q cy j.2) 107 [(4, .int j.1)] [] → cv_V p l e rX4_gather s m args below meth c 6 D A Q 0 0 (wX4 q cy S) 63 [(0, .ref (q 0)), (3, .int u3), (4, .int y4), (5, .int y5)] [] := by
  intro n
  induction n with
  | zero => intro y4 y5 S hm kx; cases hm
  | succ n ih =>
    intro y4 y5 S hm kx
    have hm : fX4_gather_L63 u3 (n + 1) y4 y5 S = some j := hm
    unfold fX4_gather_L63 at hm
    refine cv_iload (i := 5) (q := 65) 3 C dX4_gather_63 rfl rfl ?_
    refine cv_iload_n (i := 3) (q := 66) 1 C dX4_gather_65 rfl rfl rfl ?_
    refine cv_icmp_ge (tgt := 107) (q := 69) C dX4_gather_66 (by decide) rfl (fun h15 => ?_) (fun h15 => ?_)
    · have hm := cv_if_t h15 hm
      obtain rfl := Option.some.inj hm
      refine cv_sub [2] rfl ?_
      exact kx
    · have hm := cv_if_f h15 hm
      refine cv_iload (i := 4) (q := 71) 2 C dX4_gather_69 rfl rfl ?_
      refine cv_aload_n (i := 0) (q := 72) 0 C dX4_gather_71 rfl rfl rfl ?_
      refine cv_get (q := 75) C iX4_gather_X4 0 rfl rfl 4 (by decide) (List.mem_of_getElem? (i := 2) rfl) rfl rfl dX4_gather_72 rfl ?_
      refine cv_alen (v := 40) (q := 76) C 5 0 rfl rfl (by decide) dX4_gather_75 rfl ?_
      refine cv_icmp_ge (tgt := 107) (q := 79) C dX4_gather_76 (by decide) rfl (fun h16 => ?_) (fun h16 => ?_)
      · have hm := cv_if_t h16 hm
        obtain rfl := Option.some.inj hm
        refine cv_sub [2] rfl ?_
        exact kx
      · have hm := cv_if_f h16 hm
        refine cv_aload_n (i := 0) (q := 80) 0 C dX4_gather_79 rfl rfl rfl ?_
        refine cv_get (q := 83) C iX4_gather_X4 0 rfl rfl 2 (by decide) (List.mem_of_getElem? (i := 3) rfl) rfl rfl dX4_gather_80 rfl ?_
        refine cv_iload (i := 5) (q := 85) 3 C dX4_gather_83 rfl rfl ?_
        obtain ⟨g17, hm⟩ := cv_gd_s hm
        refine cv_iald (q := 86) C 3 0 rfl rfl (vp_in_iff.mpr g17) dX4_gather_85 rfl ?_
        obtain ⟨j18, hj18, hm⟩ := cv_bd_s hm
        refine cv_cut (ws' := (wX4 q cy j18.2)) (pc' := 101) (lv' := [(0, .ref (q 0)), (3, .int u3), (4, .int j18.1), (5, .int y5)]) (st' := []) ?_ (fun K19 => ?_)
        · obtain ⟨x20, ex20, hm⟩ := cv_lt_s hm
          refine cv_iinc (v := x20) (lv' := [(5, .int x20), (0, .ref (q 0)), (3, .int u3), (4, .int j18.1)]) (q := 104) 3 C dX4_gather_101 rfl (by rw [ex20]; rfl) (by decide) rfl rfl ?_
          refine cv_goto (tgt := 63) C dX4_gather_104 (by decide) ?_
          refine cv_sub [1, 2, 3, 0] rfl ?_
          exact ih j18.1 x20 j18.2 hm kx
        · have hm := hj18
          refine cv_if_le (tgt := 101) (q := 89) C dX4_gather_86 (by decide) rfl (fun h21 => ?_) (fun h21 => ?_)
          · have hm := cv_if_t h21 hm
            obtain rfl := Option.some.inj hm
            exact K19
          · have hm := cv_if_f h21 hm
            refine cv_aload_n (i := 0) (q := 90) 0 C dX4_gather_89 rfl rfl rfl ?_
            refine cv_get (q := 93) C iX4_gather_X4 0 rfl rfl 4 (by decide) (List.mem_of_getElem? (i := 2) rfl) rfl rfl dX4_gather_90 rfl ?_
            refine cv_iload (i := 4) (q := 95) 2 C dX4_gather_93 rfl rfl ?_
            refine cv_iload (i := 5) (q := 97) 3 C dX4_gather_95 rfl rfl ?_
            obtain ⟨g22, hm⟩ := cv_gd_s hm
            obtain ⟨s23, es23, hm⟩ := cv_lt_s hm
            refine cv_iast (q := 98) (ws' := (wX4 q cy s23)) C 5 0 rfl rfl (vp_in_iff.mpr g22) dX4_gather_97 rfl (by rw [es23]; rfl) ?_
            obtain ⟨x24, ex24, hm⟩ := cv_lt_s hm
            refine cv_iinc (v := x24) (lv' := [(4, .int x24), (0, .ref (q 0)), (3, .int u3), (5, .int y5)]) (q := 101) 2 C dX4_gather_98 rfl (by rw [ex24]; rfl) (by decide) rfl rfl ?_
            obtain rfl := Option.some.inj hm
            refine cv_sub [1, 2, 0, 3] rfl ?_
            exact K19
set_option maxHeartbeats 4000000 in
set_option maxRecDepth 100000 in
theorem KX4_gather {l : Launch} {σ : Nat → Nat} {D : va_G} {cy : ClassId} (q : Nat → Nat) (S : SX4) (a1 : Int32) {res : Int32 × SX4} (hm : fX4_gather S a1 = some res) : cv_M l yX4_gather wsX4_gather rX4_gather σ D [(cy, .int)] [.ref (q 0), .int a1] (wX4 q cy S) (some (.int res.1)) (wX4 q cy res.2) := by
  unfold fX4_gather at hm
  refine cv_M.of (own := RX4) (by decide +kernel) rfl rfl (lv := [(0, .ref (q 0)), (1, .int a1)]) rfl (Nat.le_of_ble_eq_true rfl) ?_
  intro p e s m args below meth c A C hr hk
  refine cv_iconst (v := -1) (q := 1) C dX4_gather_0 (by decide) rfl ?_
  refine cv_istore_n (i := 2) (lv' := [(2, .int (-1 : Int32)), (0, .ref (q 0)), (1, .int a1)]) (q := 2) C dX4_gather_1 rfl (by decide) rfl rfl ?_
  refine cv_bipush (v := 100) (q := 4) C dX4_gather_2 (by decide) rfl ?_
  refine cv_istore_n (i := 3) (lv' := [(3, .int (100 : Int32)), (2, .int (-1 : Int32)), (0, .ref (q 0)), (1, .int a1)]) (q := 5) C dX4_gather_4 rfl (by decide) rfl rfl ?_
  refine cv_iconst (v := 0) (q := 6) C dX4_gather_5 (by decide) rfl ?_
  refine cv_istore (i := 4) (lv' := [(4, .int (0 : Int32)), (3, .int (100 : Int32)), (2, .int (-1 : Int32)), (0, .ref (q 0)), (1, .int a1)]) (q := 8) C dX4_gather_6 (by decide) rfl rfl ?_
  obtain ⟨j12, hj12, hm⟩ := cv_bd_s hm
  refine cv_cut (ws' := (wX4 q cy S)) (pc' := 55) (lv' := [(0, .ref (q 0)), (2, .int j12.1), (3, .int j12.2)]) (st' := []) ?_ (fun K13 => ?_)
  · refine cv_iconst (v := 0) (q := 56) C dX4_gather_55 (by decide) rfl ?_
    refine cv_istore (i := 4) (lv' := [(4, .int (0 : Int32)), (0, .ref (q 0)), (2, .int j12.1), (3, .int j12.2)]) (q := 58) C dX4_gather_56 (by decide) rfl rfl ?_
    refine cv_iload_n (i := 2) (q := 59) 2 C dX4_gather_58 rfl rfl rfl ?_
    refine cv_iconst (v := 1) (q := 60) C dX4_gather_59 (by decide) rfl ?_
    refine cv_iadd (q := 61) C dX4_gather_60 rfl ?_
    obtain ⟨x14, ex14, hm⟩ := cv_lt_s hm
    refine cv_topi ex14 ?_
    refine cv_istore (i := 5) (lv' := [(5, .int x14), (4, .int (0 : Int32)), (0, .ref (q 0)), (2, .int j12.1), (3, .int j12.2)]) (q := 63) C dX4_gather_61 (by decide) rfl rfl ?_
    obtain ⟨j25, hj25, hm⟩ := cv_bd_s hm
    refine cv_cut (ws' := (wX4 q cy j25.2)) (pc' := 107) (lv' := [(4, .int j25.1)]) (st' := []) ?_ (fun K26 => ?_)
    · refine cv_iload (i := 4) (q := 109) 0 C dX4_gather_107 rfl rfl ?_
      obtain rfl := Option.some.inj hm
      exact cv_iret C hr hk dX4_gather_109
    · refine cv_sub [2, 4, 1, 0] rfl ?_
      exact vX4_gather_L63 q j12.2 C 256 (0 : Int32) x14 S hj25 K26
  · refine cv_sub [3, 4, 2, 1, 0] rfl ?_
    exact vX4_gather_L8 q S a1 C 256 (-1 : Int32) (100 : Int32) (0 : Int32) hj12 K13
def fX4_flat : Nat → SX4 → Int32 → Int32 → Int32 → Option (Int32 × SX4)
  | 0, _, _, _, _ => none
  | n + 1, S, a1, a2, a3 =>
    if a1 < 0 then
      (
      some ((-1 : Int32), S)
      )
    else
      (
      if (40 : Int32) ≤ a2 then
        (
        some ((-1 : Int32), S)
        )
      else
        (
        if a2 < a1 then
          (
          some ((-1 : Int32), S)
          )
        else
          (
          if a3 ≤ (40 : Int32) then
            (
            cv_lt (((a1 + a2) / (2 : Int32))) fun x5 =>
            cv_gd (0 ≤ (x5).toInt ∧ (x5).toInt < 40) <|
            cv_lt (((gX4_row S) (x5).toNatClampNeg)) fun x7 =>
            cv_bd (fX4_flat n S a1 (x5 - (1 : Int32)) (a3 + (1 : Int32))) fun r8 =>
            cv_gd (0 ≤ (x7).toInt ∧ (x7).toInt < 100) <|
            cv_lt (sX4_lefts r8.2 (upd (gX4_lefts r8.2) (x7).toNatClampNeg r8.1)) fun s10 =>
            cv_bd (fX4_flat n s10 (x5 + (1 : Int32)) a2 (a3 + (1 : Int32))) fun r11 =>
            cv_gd (0 ≤ (x7).toInt ∧ (x7).toInt < 100) <|
            cv_lt (sX4_rights r11.2 (upd (gX4_rights r11.2) (x7).toNatClampNeg r11.1)) fun s13 =>
            cv_gd (0 ≤ (x7).toInt ∧ (x7).toInt < 100) <|
            cv_lt (sX4_sizes s13 (upd (gX4_sizes s13) (x7).toNatClampNeg ((a2 - a1) + (1 : Int32)))) fun s15 =>
            some (x7, s15)
            )
          else
            (
            some ((-1 : Int32), S)
            )
          )
        )
      )
def rX4_flat (n : Nat) : Room := { frames := n, cells := 0, slots := 0, locals := 25 * n }
theorem iX4_flat_X4 : ∀ w ∈ u_ws RX4 TX4 12, w ∈ wsX4_flat := fun w h => List.mem_cons_of_mem _ (List.mem_append_right _ h)
set_option maxHeartbeats 4000000 in
set_option maxRecDepth 100000 in
theorem KX4_flat {l : Launch} {σ : Nat → Nat} {D : va_G} {cy : ClassId} : ∀ (n : Nat) (q : Nat → Nat) (S : SX4) (a1 : Int32) (a2 : Int32) (a3 : Int32) {res : Int32 × SX4}, fX4_flat n S a1 a2 a3 = some res → cv_M l yX4_flat wsX4_flat (rX4_flat n) σ D [(cy, .int)] [.ref (q 0), .int a1, .int a2, .int a3] (wX4 q cy S) (some (.int res.1)) (wX4 q cy res.2) := by
  intro n
  induction n with
  | zero => intro q S a1 a2 a3 res hm; cases hm
  | succ n ih =>
    intro q S a1 a2 a3 res hm
    have hm : fX4_flat (n + 1) S a1 a2 a3 = some res := hm
    unfold fX4_flat at hm
    refine cv_M.of (own := RX4) (by decide +kernel) rfl rfl (lv := [(0, .ref (q 0)), (1, .int a1), (2, .int a2), (3, .int a3)]) rfl (Nat.le_of_ble_eq_true rfl) ?_
    intro p e s m args below meth c A C hr hk
    refine cv_iload_n (i := 1) (q := 1) 1 C dX4_flat_0 rfl rfl rfl ?_
    refine cv_if_lt (tgt := 21) (q := 4) C dX4_flat_1 (by decide) rfl (fun h1 => ?_) (fun h1 => ?_)
    · have hm := cv_if_t h1 hm
      refine cv_iconst (v := -1) (q := 22) C dX4_flat_21 (by decide) rfl ?_
      obtain rfl := Option.some.inj hm
      exact cv_iret C hr hk dX4_flat_22
    · have hm := cv_if_f h1 hm
      refine cv_iload_n (i := 2) (q := 5) 2 C dX4_flat_4 rfl rfl rfl ?_
      refine cv_bipush (v := 40) (q := 7) C dX4_flat_5 (by decide) rfl ?_
      refine cv_icmp_ge (tgt := 21) (q := 10) C dX4_flat_7 (by decide) rfl (fun h2 => ?_) (fun h2 => ?_)
      · have hm := cv_if_t h2 hm
        refine cv_iconst (v := -1) (q := 22) C dX4_flat_21 (by decide) rfl ?_
        obtain rfl := Option.some.inj hm
        exact cv_iret C hr hk dX4_flat_22
      · have hm := cv_if_f h2 hm
        refine cv_iload_n (i := 1) (q := 11) 1 C dX4_flat_10 rfl rfl rfl ?_
        refine cv_iload_n (i := 2) (q := 12) 2 C dX4_flat_11 rfl rfl rfl ?_
        refine cv_icmp_gt (tgt := 21) (q := 15) C dX4_flat_12 (by decide) rfl (fun h3 => ?_) (fun h3 => ?_)
        · have hm := cv_if_t h3 hm
          refine cv_iconst (v := -1) (q := 22) C dX4_flat_21 (by decide) rfl ?_
          obtain rfl := Option.some.inj hm
          exact cv_iret C hr hk dX4_flat_22
        · have hm := cv_if_f h3 hm
          refine cv_iload_n (i := 3) (q := 16) 3 C dX4_flat_15 rfl rfl rfl ?_
          refine cv_bipush (v := 40) (q := 18) C dX4_flat_16 (by decide) rfl ?_
          refine cv_icmp_le (tgt := 23) (q := 21) C dX4_flat_18 (by decide) rfl (fun h4 => ?_) (fun h4 => ?_)
          · have hm := cv_if_t h4 hm
            refine cv_iload_n (i := 1) (q := 24) 1 C dX4_flat_23 rfl rfl rfl ?_
            refine cv_iload_n (i := 2) (q := 25) 2 C dX4_flat_24 rfl rfl rfl ?_
            refine cv_iadd (q := 26) C dX4_flat_25 rfl ?_
            refine cv_iconst (v := 2) (q := 27) C dX4_flat_26 (by decide) rfl ?_
            refine cv_idiv (q := 28) C dX4_flat_27 (by decide) rfl ?_
            obtain ⟨x5, ex5, hm⟩ := cv_lt_s hm
            refine cv_topi ex5 ?_
            refine cv_istore (i := 4) (lv' := [(4, .int x5), (0, .ref (q 0)), (1, .int a1), (2, .int a2), (3, .int a3)]) (q := 30) C dX4_flat_28 (by decide) rfl rfl ?_
            refine cv_aload_n (i := 0) (q := 31) 1 C dX4_flat_30 rfl rfl rfl ?_
            refine cv_get (q := 34) C iX4_flat_X4 0 rfl rfl 4 (by decide) (List.mem_of_getElem? (i := 1) rfl) rfl rfl dX4_flat_31 rfl ?_
            refine cv_iload (i := 4) (q := 36) 0 C dX4_flat_34 rfl rfl ?_
            obtain ⟨g6, hm⟩ := cv_gd_s hm
            refine cv_iald (q := 37) C 5 0 rfl rfl (vp_in_iff.mpr g6) dX4_flat_36 rfl ?_
            obtain ⟨x7, ex7, hm⟩ := cv_lt_s hm
            refine cv_topi ex7 ?_
            refine cv_istore (i := 5) (lv' := [(5, .int x7), (4, .int x5), (0, .ref (q 0)), (1, .int a1), (2, .int a2), (3, .int a3)]) (q := 39) C dX4_flat_37 (by decide) rfl rfl ?_
            refine cv_aload_n (i := 0) (q := 40) 2 C dX4_flat_39 rfl rfl rfl ?_
            refine cv_get (q := 43) C iX4_flat_X4 0 rfl rfl 0 (by decide) (List.mem_of_getElem? (i := 2) rfl) rfl rfl dX4_flat_40 rfl ?_
            refine cv_iload (i := 5) (q := 45) 0 C dX4_flat_43 rfl rfl ?_
            refine cv_aload_n (i := 0) (q := 46) 2 C dX4_flat_45 rfl rfl rfl ?_
            refine cv_iload_n (i := 1) (q := 47) 3 C dX4_flat_46 rfl rfl rfl ?_
            refine cv_iload (i := 4) (q := 49) 1 C dX4_flat_47 rfl rfl ?_
            refine cv_iconst (v := 1) (q := 50) C dX4_flat_49 (by decide) rfl ?_
            refine cv_isub (q := 51) C dX4_flat_50 rfl ?_
            refine cv_iload_n (i := 3) (q := 52) 5 C dX4_flat_51 rfl rfl rfl ?_
            refine cv_iconst (v := 1) (q := 53) C dX4_flat_52 (by decide) rfl ?_
            refine cv_iadd (q := 54) C dX4_flat_53 rfl ?_
            obtain ⟨r8, hr8, hm⟩ := cv_bd_s hm
            refine cv_goW (q := 57) C (ih q S a1 (x5 - (1 : Int32)) (a3 + (1 : Int32)) hr8) (cv_rs (As := [.ref (q 0), .int a1, .int (x5 - (1 : Int32)), .int (a3 + (1 : Int32))]) (st := [.int x7, .ref (q 1)]) (n := 4) C (ih q S a1 (x5 - (1 : Int32)) (a3 + (1 : Int32)) hr8) gX4_flat_X4_flat rfl ⟨rfl, rfl⟩ (by decide +kernel) rfl ⟨Nat.le_refl _, by simp only [rX4_flat]; omega⟩ rfl (Nat.le_of_ble_eq_true rfl) dX4_flat_54 ⟨Nat.zero_le _, Nat.zero_le _⟩) rfl ?_
            obtain ⟨g9, hm⟩ := cv_gd_s hm
            obtain ⟨s10, es10, hm⟩ := cv_lt_s hm
            refine cv_iast (q := 58) (ws' := (wX4 q cy s10)) C 1 0 rfl rfl (vp_in_iff.mpr g9) dX4_flat_57 rfl (by rw [es10]; rfl) ?_
            refine cv_aload_n (i := 0) (q := 59) 2 C dX4_flat_58 rfl rfl rfl ?_
            refine cv_get (q := 62) C iX4_flat_X4 0 rfl rfl 1 (by decide) (List.mem_of_getElem? (i := 3) rfl) rfl rfl dX4_flat_59 rfl ?_
            refine cv_iload (i := 5) (q := 64) 0 C dX4_flat_62 rfl rfl ?_
            refine cv_aload_n (i := 0) (q := 65) 2 C dX4_flat_64 rfl rfl rfl ?_
            refine cv_iload (i := 4) (q := 67) 1 C dX4_flat_65 rfl rfl ?_
            refine cv_iconst (v := 1) (q := 68) C dX4_flat_67 (by decide) rfl ?_
            refine cv_iadd (q := 69) C dX4_flat_68 rfl ?_
            refine cv_iload_n (i := 2) (q := 70) 4 C dX4_flat_69 rfl rfl rfl ?_
            refine cv_iload_n (i := 3) (q := 71) 5 C dX4_flat_70 rfl rfl rfl ?_
            refine cv_iconst (v := 1) (q := 72) C dX4_flat_71 (by decide) rfl ?_
            refine cv_iadd (q := 73) C dX4_flat_72 rfl ?_
            obtain ⟨r11, hr11, hm⟩ := cv_bd_s hm
            refine cv_goW (q := 76) C (ih q s10 (x5 + (1 : Int32)) a2 (a3 + (1 : Int32)) hr11) (cv_rs (As := [.ref (q 0), .int (x5 + (1 : Int32)), .int a2, .int (a3 + (1 : Int32))]) (st := [.int x7, .ref (q 2)]) (n := 4) C (ih q s10 (x5 + (1 : Int32)) a2 (a3 + (1 : Int32)) hr11) gX4_flat_X4_flat rfl ⟨rfl, rfl⟩ (by decide +kernel) rfl ⟨Nat.le_refl _, by simp only [rX4_flat]; omega⟩ rfl (Nat.le_of_ble_eq_true rfl) dX4_flat_73 ⟨Nat.zero_le _, Nat.zero_le _⟩) rfl ?_
            obtain ⟨g12, hm⟩ := cv_gd_s hm
            obtain ⟨s13, es13, hm⟩ := cv_lt_s hm
            refine cv_iast (q := 77) (ws' := (wX4 q cy s13)) C 2 0 rfl rfl (vp_in_iff.mpr g12) dX4_flat_76 rfl (by rw [es13]; rfl) ?_
            refine cv_aload_n (i := 0) (q := 78) 2 C dX4_flat_77 rfl rfl rfl ?_
            refine cv_get (q := 81) C iX4_flat_X4 0 rfl rfl 2 (by decide) (List.mem_of_getElem? (i := 4) rfl) rfl rfl dX4_flat_78 rfl ?_
            refine cv_iload (i := 5) (q := 83) 0 C dX4_flat_81 rfl rfl ?_
            refine cv_iload_n (i := 2) (q := 84) 4 C dX4_flat_83 rfl rfl rfl ?_
            refine cv_iload_n (i := 1) (q := 85) 3 C dX4_flat_84 rfl rfl rfl ?_
            refine cv_isub (q := 86) C dX4_flat_85 rfl ?_
            refine cv_iconst (v := 1) (q := 87) C dX4_flat_86 (by decide) rfl ?_
            refine cv_iadd (q := 88) C dX4_flat_87 rfl ?_
            obtain ⟨g14, hm⟩ := cv_gd_s hm
            obtain ⟨s15, es15, hm⟩ := cv_lt_s hm
            refine cv_iast (q := 89) (ws' := (wX4 q cy s15)) C 3 0 rfl rfl (vp_in_iff.mpr g14) dX4_flat_88 rfl (by rw [es15]; rfl) ?_
            refine cv_iload (i := 5) (q := 91) 0 C dX4_flat_89 rfl rfl ?_
            obtain rfl := Option.some.inj hm
            exact cv_iret C hr hk dX4_flat_91
          · have hm := cv_if_f h4 hm
            refine cv_iconst (v := -1) (q := 22) C dX4_flat_21 (by decide) rfl ?_
            obtain rfl := Option.some.inj hm
            exact cv_iret C hr hk dX4_flat_22
def fX4_build (S : SX4) (a1 : Int32) : Option (Int32 × SX4) :=
  cv_bd (fX4_gather S a1) fun r1 =>
  cv_bd (fX4_onWay r1.2 (a1 - (1 : Int32))) fun r2 =>
  cv_bd (fX4_onWay r1.2 a1) fun r3 =>
  cv_bd (fX4_flat 8 r1.2 (0 : Int32) (r1.1 - (1 : Int32)) (0 : Int32)) fun r4 =>
  cv_bd (fX4_hang r4.2 r2 r3 r4.1) fun r5 =>
  cv_lt (sX4_buildings r5 ((gX4_buildings r5) + (1 : Int32))) fun s6 =>
  cv_lt (sX4_cost s6 ((gX4_cost s6) + r1.1)) fun s7 =>
  some (r1.1, s7)
abbrev rX4_build : Room := { frames := 9, cells := 0, slots := 0, locals := 225 }
theorem iX4_build_X4 : ∀ w ∈ u_ws RX4 TX4 12, w ∈ wsX4_build := fun w h => List.mem_cons_of_mem _ (List.mem_append_right _ h)
set_option maxHeartbeats 4000000 in
set_option maxRecDepth 100000 in
theorem KX4_build {l : Launch} {σ : Nat → Nat} {D : va_G} {cy : ClassId} (q : Nat → Nat) (S : SX4) (a1 : Int32) {res : Int32 × SX4} (hm : fX4_build S a1 = some res) : cv_M l yX4_build wsX4_build rX4_build σ D [(cy, .int)] [.ref (q 0), .int a1] (wX4 q cy S) (some (.int res.1)) (wX4 q cy res.2) := by
  unfold fX4_build at hm
  refine cv_M.of (own := RX4) (by decide +kernel) rfl rfl (lv := [(0, .ref (q 0)), (1, .int a1)]) rfl (Nat.le_of_ble_eq_true rfl) ?_
  intro p e s m args below meth c A C hr hk
  refine cv_aload_n (i := 0) (q := 1) 0 C dX4_build_0 rfl rfl rfl ?_
  refine cv_iload_n (i := 1) (q := 2) 1 C dX4_build_1 rfl rfl rfl ?_
  obtain ⟨r1, hr1, hm⟩ := cv_bd_s hm
  refine cv_goW (q := 5) C (KX4_gather (l := l) (σ := σ) (D := D) (cy := cy)  q  S a1 hr1) (cv_rv (As := [.int a1]) (st := []) (n := 1) (q0 := 0) (ci := 4) C (KX4_gather (l := l) (σ := σ) (D := D) (cy := cy)  q  S a1 hr1) rfl rfl gX4_build_X4_gather rfl ⟨rfl, rfl⟩ (by decide +kernel) rfl ⟨Nat.le_of_ble_eq_true rfl, Nat.le_of_ble_eq_true rfl⟩ rfl (Nat.le_of_ble_eq_true rfl) dX4_build_2 ⟨Nat.zero_le _, Nat.zero_le _⟩) rfl ?_
  refine cv_istore_n (i := 2) (lv' := [(2, .int r1.1), (0, .ref (q 0)), (1, .int a1)]) (q := 6) C dX4_build_5 rfl (by decide) rfl rfl ?_
  refine cv_aload_n (i := 0) (q := 7) 1 C dX4_build_6 rfl rfl rfl ?_
  refine cv_aload_n (i := 0) (q := 8) 1 C dX4_build_7 rfl rfl rfl ?_
  refine cv_iload_n (i := 1) (q := 9) 2 C dX4_build_8 rfl rfl rfl ?_
  refine cv_iconst (v := 1) (q := 10) C dX4_build_9 (by decide) rfl ?_
  refine cv_isub (q := 11) C dX4_build_10 rfl ?_
  obtain ⟨r2, hr2, hm⟩ := cv_bd_s hm
  refine cv_goW (q := 14) C (KX4_onWay (l := l) (σ := σ) (D := D) (cy := cy)  q  r1.2 (a1 - (1 : Int32)) hr2) (cv_rv (As := [.int (a1 - (1 : Int32))]) (st := [.ref (q 0)]) (n := 1) (q0 := 0) (ci := 4) C (KX4_onWay (l := l) (σ := σ) (D := D) (cy := cy)  q  r1.2 (a1 - (1 : Int32)) hr2) rfl rfl gX4_build_X4_onWay rfl ⟨rfl, rfl⟩ (by decide +kernel) rfl ⟨Nat.le_of_ble_eq_true rfl, Nat.le_of_ble_eq_true rfl⟩ rfl (Nat.le_of_ble_eq_true rfl) dX4_build_11 ⟨Nat.zero_le _, Nat.zero_le _⟩) rfl ?_
  refine cv_aload_n (i := 0) (q := 15) 1 C dX4_build_14 rfl rfl rfl ?_
  refine cv_iload_n (i := 1) (q := 16) 2 C dX4_build_15 rfl rfl rfl ?_
  obtain ⟨r3, hr3, hm⟩ := cv_bd_s hm
  refine cv_goW (q := 19) C (KX4_onWay (l := l) (σ := σ) (D := D) (cy := cy)  q  r1.2 a1 hr3) (cv_rv (As := [.int a1]) (st := [.int r2, .ref (q 0)]) (n := 1) (q0 := 0) (ci := 4) C (KX4_onWay (l := l) (σ := σ) (D := D) (cy := cy)  q  r1.2 a1 hr3) rfl rfl gX4_build_X4_onWay rfl ⟨rfl, rfl⟩ (by decide +kernel) rfl ⟨Nat.le_of_ble_eq_true rfl, Nat.le_of_ble_eq_true rfl⟩ rfl (Nat.le_of_ble_eq_true rfl) dX4_build_16 ⟨Nat.zero_le _, Nat.zero_le _⟩) rfl ?_
  refine cv_aload_n (i := 0) (q := 20) 1 C dX4_build_19 rfl rfl rfl ?_
  refine cv_iconst (v := 0) (q := 21) C dX4_build_20 (by decide) rfl ?_
  refine cv_iload_n (i := 2) (q := 22) 0 C dX4_build_21 rfl rfl rfl ?_
  refine cv_iconst (v := 1) (q := 23) C dX4_build_22 (by decide) rfl ?_
  refine cv_isub (q := 24) C dX4_build_23 rfl ?_
  refine cv_iconst (v := 0) (q := 25) C dX4_build_24 (by decide) rfl ?_
  obtain ⟨r4, hr4, hm⟩ := cv_bd_s hm
  refine cv_goW (q := 28) C (KX4_flat (l := l) (σ := σ) (D := D) (cy := cy) 8 q  r1.2 (0 : Int32) (r1.1 - (1 : Int32)) (0 : Int32) hr4) (cv_rs (As := [.ref (q 0), .int (0 : Int32), .int (r1.1 - (1 : Int32)), .int (0 : Int32)]) (st := [.int r3, .int r2, .ref (q 0)]) (n := 4) C (KX4_flat (l := l) (σ := σ) (D := D) (cy := cy) 8 q  r1.2 (0 : Int32) (r1.1 - (1 : Int32)) (0 : Int32) hr4) gX4_build_X4_flat rfl ⟨rfl, rfl⟩ (by decide +kernel) rfl ⟨Nat.le_of_ble_eq_true rfl, Nat.le_of_ble_eq_true rfl⟩ rfl (Nat.le_of_ble_eq_true rfl) dX4_build_25 ⟨Nat.zero_le _, Nat.zero_le _⟩) rfl ?_
  obtain ⟨r5, hr5, hm⟩ := cv_bd_s hm
  refine cv_goW (q := 31) C (KX4_hang (l := l) (σ := σ) (D := D) (cy := cy)  q  r4.2 r2 r3 r4.1 hr5) (cv_rv (As := [.int r2, .int r3, .int r4.1]) (st := []) (n := 3) (q0 := 0) (ci := 4) C (KX4_hang (l := l) (σ := σ) (D := D) (cy := cy)  q  r4.2 r2 r3 r4.1 hr5) rfl rfl gX4_build_X4_hang rfl ⟨rfl, rfl⟩ (by decide +kernel) rfl ⟨Nat.le_of_ble_eq_true rfl, Nat.le_of_ble_eq_true rfl⟩ rfl (Nat.le_of_ble_eq_true rfl) dX4_build_28 ⟨Nat.zero_le _, Nat.zero_le _⟩) rfl ?_
  refine cv_aload_n (i := 0) (q := 32) 1 C dX4_build_31 rfl rfl rfl ?_
  refine cv_dup (q := 33) C dX4_build_32 rfl rfl ?_
  refine cv_get (q := 36) C iX4_build_X4 0 rfl rfl 10 (by decide) (List.mem_of_getElem? (i := 1) rfl) rfl rfl dX4_build_33 rfl ?_
  refine cv_iconst (v := 1) (q := 37) C dX4_build_36 (by decide) rfl ?_
  refine cv_iadd (q := 38) C dX4_build_37 rfl ?_
  obtain ⟨s6, es6, hm⟩ := cv_lt_s hm
  refine cv_put (q := 41) (ws' := (wX4 q cy s6)) C iX4_build_X4 tyX4 tyX4_ok nmX4 0 rfl rfl 10 (by decide) (List.mem_of_getElem? (i := 1) rfl) rfl rfl rfl rfl rfl (Nat.le_of_ble_eq_true rfl) dX4_build_38 rfl (by rw [es6]; rfl) ?_
  refine cv_aload_n (i := 0) (q := 42) 1 C dX4_build_41 rfl rfl rfl ?_
  refine cv_dup (q := 43) C dX4_build_42 rfl rfl ?_
  refine cv_get (q := 46) C iX4_build_X4 0 rfl rfl 11 (by decide) (List.mem_of_getElem? (i := 2) rfl) rfl rfl dX4_build_43 rfl ?_
  refine cv_iload_n (i := 2) (q := 47) 0 C dX4_build_46 rfl rfl rfl ?_
  refine cv_iadd (q := 48) C dX4_build_47 rfl ?_
  obtain ⟨s7, es7, hm⟩ := cv_lt_s hm
  refine cv_put (q := 51) (ws' := (wX4 q cy s7)) C iX4_build_X4 tyX4 tyX4_ok nmX4 0 rfl rfl 11 (by decide) (List.mem_of_getElem? (i := 2) rfl) rfl rfl rfl rfl rfl (Nat.le_of_ble_eq_true rfl) dX4_build_48 rfl (by rw [es7]; rfl) ?_
  refine cv_iload_n (i := 2) (q := 52) 0 C dX4_build_51 rfl rfl rfl ?_
  obtain rfl := Option.some.inj hm
  exact cv_iret C hr hk dX4_build_52
def fX4_add (S : SX4) (a1 : Int32) : Option (Int32 × SX4) :=
  cv_bd (fX4_walk S a1) fun r1 =>
  cv_bd (fX4_heavyPlace r1.2 r1.1) fun r2 =>
  cv_bd (fX4_changeSizes r1.2 r1.1 (1 : Int32)) fun r3 =>
  cv_gd (0 ≤ (a1).toInt ∧ (a1).toInt < 100) <|
  cv_lt (sX4_lefts r3 (upd (gX4_lefts r3) (a1).toNatClampNeg (-1 : Int32))) fun s5 =>
  cv_gd (0 ≤ (a1).toInt ∧ (a1).toInt < 100) <|
  cv_lt (sX4_rights s5 (upd (gX4_rights s5) (a1).toNatClampNeg (-1 : Int32))) fun s7 =>
  cv_gd (0 ≤ (a1).toInt ∧ (a1).toInt < 100) <|
  cv_lt (sX4_sizes s7 (upd (gX4_sizes s7) (a1).toNatClampNeg (1 : Int32))) fun s9 =>
  cv_bd (fX4_onWay s9 (r1.1 - (1 : Int32))) fun r10 =>
  cv_bd (fX4_hang s9 r10 a1 a1) fun r11 =>
  cv_lt (sX4_number r11 ((gX4_number r11) + (1 : Int32))) fun s12 =>
  cv_lt (sX4_most s12 (cv_max (gX4_most s12) (gX4_number s12))) fun s13 =>
  if r2 = (-1 : Int32) then
    (
    some ((0 : Int32), s13)
    )
  else
    (
    cv_bd (fX4_build s13 r2) fun r15 =>
    some (r15.1, r15.2)
    )
abbrev rX4_add : Room := { frames := 10, cells := 0, slots := 0, locals := 247 }
theorem iX4_add_X4 : ∀ w ∈ u_ws RX4 TX4 12, w ∈ wsX4_add := fun w h => List.mem_cons_of_mem _ (List.mem_append_right _ h)
set_option maxHeartbeats 4000000 in
set_option maxRecDepth 100000 in
theorem KX4_add {l : Launch} {σ : Nat → Nat} {D : va_G} {cy : ClassId} (q : Nat → Nat) (S : SX4) (a1 : Int32) {res : Int32 × SX4} (hm : fX4_add S a1 = some res) : cv_M l yX4_add wsX4_add rX4_add σ D [(cy, .int)] [.ref (q 0), .int a1] (wX4 q cy S) (some (.int res.1)) (wX4 q cy res.2) := by
  unfold fX4_add at hm
  refine cv_M.of (own := RX4) (by decide +kernel) rfl rfl (lv := [(0, .ref (q 0)), (1, .int a1)]) rfl (Nat.le_of_ble_eq_true rfl) ?_
  intro p e s m args below meth c A C hr hk
  refine cv_aload_n (i := 0) (q := 1) 0 C dX4_add_0 rfl rfl rfl ?_
  refine cv_iload_n (i := 1) (q := 2) 1 C dX4_add_1 rfl rfl rfl ?_
  obtain ⟨r1, hr1, hm⟩ := cv_bd_s hm
  refine cv_goW (q := 5) C (KX4_walk (l := l) (σ := σ) (D := D) (cy := cy)  q  S a1 hr1) (cv_rv (As := [.int a1]) (st := []) (n := 1) (q0 := 0) (ci := 4) C (KX4_walk (l := l) (σ := σ) (D := D) (cy := cy)  q  S a1 hr1) rfl rfl gX4_add_X4_walk rfl ⟨rfl, rfl⟩ (by decide +kernel) rfl ⟨Nat.le_of_ble_eq_true rfl, Nat.le_of_ble_eq_true rfl⟩ rfl (Nat.le_of_ble_eq_true rfl) dX4_add_2 ⟨Nat.zero_le _, Nat.zero_le _⟩) rfl ?_
  refine cv_istore_n (i := 2) (lv' := [(2, .int r1.1), (0, .ref (q 0)), (1, .int a1)]) (q := 6) C dX4_add_5 rfl (by decide) rfl rfl ?_
  refine cv_aload_n (i := 0) (q := 7) 1 C dX4_add_6 rfl rfl rfl ?_
  refine cv_iload_n (i := 2) (q := 8) 0 C dX4_add_7 rfl rfl rfl ?_
  obtain ⟨r2, hr2, hm⟩ := cv_bd_s hm
  refine cv_goW (q := 11) C (KX4_heavyPlace (l := l) (σ := σ) (D := D) (cy := cy)  q  r1.2 r1.1 hr2) (cv_rv (As := [.int r1.1]) (st := []) (n := 1) (q0 := 0) (ci := 4) C (KX4_heavyPlace (l := l) (σ := σ) (D := D) (cy := cy)  q  r1.2 r1.1 hr2) rfl rfl gX4_add_X4_heavyPlace rfl ⟨rfl, rfl⟩ (by decide +kernel) rfl ⟨Nat.le_of_ble_eq_true rfl, Nat.le_of_ble_eq_true rfl⟩ rfl (Nat.le_of_ble_eq_true rfl) dX4_add_8 ⟨Nat.zero_le _, Nat.zero_le _⟩) rfl ?_
  refine cv_istore_n (i := 3) (lv' := [(3, .int r2), (2, .int r1.1), (0, .ref (q 0)), (1, .int a1)]) (q := 12) C dX4_add_11 rfl (by decide) rfl rfl ?_
  refine cv_aload_n (i := 0) (q := 13) 2 C dX4_add_12 rfl rfl rfl ?_
  refine cv_iload_n (i := 2) (q := 14) 1 C dX4_add_13 rfl rfl rfl ?_
  refine cv_iconst (v := 1) (q := 15) C dX4_add_14 (by decide) rfl ?_
  obtain ⟨r3, hr3, hm⟩ := cv_bd_s hm
  refine cv_goW (q := 18) C (KX4_changeSizes (l := l) (σ := σ) (D := D) (cy := cy)  q  r1.2 r1.1 (1 : Int32) hr3) (cv_rv (As := [.int r1.1, .int (1 : Int32)]) (st := []) (n := 2) (q0 := 0) (ci := 4) C (KX4_changeSizes (l := l) (σ := σ) (D := D) (cy := cy)  q  r1.2 r1.1 (1 : Int32) hr3) rfl rfl gX4_add_X4_changeSizes rfl ⟨rfl, rfl⟩ (by decide +kernel) rfl ⟨Nat.le_of_ble_eq_true rfl, Nat.le_of_ble_eq_true rfl⟩ rfl (Nat.le_of_ble_eq_true rfl) dX4_add_15 ⟨Nat.zero_le _, Nat.zero_le _⟩) rfl ?_
  refine cv_aload_n (i := 0) (q := 19) 2 C dX4_add_18 rfl rfl rfl ?_
  refine cv_get (q := 22) C iX4_add_X4 0 rfl rfl 0 (by decide) (List.mem_of_getElem? (i := 1) rfl) rfl rfl dX4_add_19 rfl ?_
  refine cv_iload_n (i := 1) (q := 23) 3 C dX4_add_22 rfl rfl rfl ?_
  refine cv_iconst (v := -1) (q := 24) C dX4_add_23 (by decide) rfl ?_
  obtain ⟨g4, hm⟩ := cv_gd_s hm
  obtain ⟨s5, es5, hm⟩ := cv_lt_s hm
  refine cv_iast (q := 25) (ws' := (wX4 q cy s5)) C 1 0 rfl rfl (vp_in_iff.mpr g4) dX4_add_24 rfl (by rw [es5]; rfl) ?_
  refine cv_aload_n (i := 0) (q := 26) 2 C dX4_add_25 rfl rfl rfl ?_
  refine cv_get (q := 29) C iX4_add_X4 0 rfl rfl 1 (by decide) (List.mem_of_getElem? (i := 2) rfl) rfl rfl dX4_add_26 rfl ?_
  refine cv_iload_n (i := 1) (q := 30) 3 C dX4_add_29 rfl rfl rfl ?_
  refine cv_iconst (v := -1) (q := 31) C dX4_add_30 (by decide) rfl ?_
  obtain ⟨g6, hm⟩ := cv_gd_s hm
  obtain ⟨s7, es7, hm⟩ := cv_lt_s hm
  refine cv_iast (q := 32) (ws' := (wX4 q cy s7)) C 2 0 rfl rfl (vp_in_iff.mpr g6) dX4_add_31 rfl (by rw [es7]; rfl) ?_
  refine cv_aload_n (i := 0) (q := 33) 2 C dX4_add_32 rfl rfl rfl ?_
  refine cv_get (q := 36) C iX4_add_X4 0 rfl rfl 2 (by decide) (List.mem_of_getElem? (i := 3) rfl) rfl rfl dX4_add_33 rfl ?_
  refine cv_iload_n (i := 1) (q := 37) 3 C dX4_add_36 rfl rfl rfl ?_
  refine cv_iconst (v := 1) (q := 38) C dX4_add_37 (by decide) rfl ?_
  obtain ⟨g8, hm⟩ := cv_gd_s hm
  obtain ⟨s9, es9, hm⟩ := cv_lt_s hm
  refine cv_iast (q := 39) (ws' := (wX4 q cy s9)) C 3 0 rfl rfl (vp_in_iff.mpr g8) dX4_add_38 rfl (by rw [es9]; rfl) ?_
  refine cv_aload_n (i := 0) (q := 40) 2 C dX4_add_39 rfl rfl rfl ?_
  refine cv_aload_n (i := 0) (q := 41) 2 C dX4_add_40 rfl rfl rfl ?_
  refine cv_iload_n (i := 2) (q := 42) 1 C dX4_add_41 rfl rfl rfl ?_
  refine cv_iconst (v := 1) (q := 43) C dX4_add_42 (by decide) rfl ?_
  refine cv_isub (q := 44) C dX4_add_43 rfl ?_
  obtain ⟨r10, hr10, hm⟩ := cv_bd_s hm
  refine cv_goW (q := 47) C (KX4_onWay (l := l) (σ := σ) (D := D) (cy := cy)  q  s9 (r1.1 - (1 : Int32)) hr10) (cv_rv (As := [.int (r1.1 - (1 : Int32))]) (st := [.ref (q 0)]) (n := 1) (q0 := 0) (ci := 4) C (KX4_onWay (l := l) (σ := σ) (D := D) (cy := cy)  q  s9 (r1.1 - (1 : Int32)) hr10) rfl rfl gX4_add_X4_onWay rfl ⟨rfl, rfl⟩ (by decide +kernel) rfl ⟨Nat.le_of_ble_eq_true rfl, Nat.le_of_ble_eq_true rfl⟩ rfl (Nat.le_of_ble_eq_true rfl) dX4_add_44 ⟨Nat.zero_le _, Nat.zero_le _⟩) rfl ?_
  refine cv_iload_n (i := 1) (q := 48) 3 C dX4_add_47 rfl rfl rfl ?_
  refine cv_iload_n (i := 1) (q := 49) 3 C dX4_add_48 rfl rfl rfl ?_
  obtain ⟨r11, hr11, hm⟩ := cv_bd_s hm
  refine cv_goW (q := 52) C (KX4_hang (l := l) (σ := σ) (D := D) (cy := cy)  q  s9 r10 a1 a1 hr11) (cv_rv (As := [.int r10, .int a1, .int a1]) (st := []) (n := 3) (q0 := 0) (ci := 4) C (KX4_hang (l := l) (σ := σ) (D := D) (cy := cy)  q  s9 r10 a1 a1 hr11) rfl rfl gX4_add_X4_hang rfl ⟨rfl, rfl⟩ (by decide +kernel) rfl ⟨Nat.le_of_ble_eq_true rfl, Nat.le_of_ble_eq_true rfl⟩ rfl (Nat.le_of_ble_eq_true rfl) dX4_add_49 ⟨Nat.zero_le _, Nat.zero_le _⟩) rfl ?_
  refine cv_aload_n (i := 0) (q := 53) 2 C dX4_add_52 rfl rfl rfl ?_
  refine cv_dup (q := 54) C dX4_add_53 rfl rfl ?_
  refine cv_get (q := 57) C iX4_add_X4 0 rfl rfl 8 (by decide) (List.mem_of_getElem? (i := 4) rfl) rfl rfl dX4_add_54 rfl ?_
  refine cv_iconst (v := 1) (q := 58) C dX4_add_57 (by decide) rfl ?_
  refine cv_iadd (q := 59) C dX4_add_58 rfl ?_
  obtain ⟨s12, es12, hm⟩ := cv_lt_s hm
  refine cv_put (q := 62) (ws' := (wX4 q cy s12)) C iX4_add_X4 tyX4 tyX4_ok nmX4 0 rfl rfl 8 (by decide) (List.mem_of_getElem? (i := 4) rfl) rfl rfl rfl rfl rfl (Nat.le_of_ble_eq_true rfl) dX4_add_59 rfl (by rw [es12]; rfl) ?_
  refine cv_aload_n (i := 0) (q := 63) 2 C dX4_add_62 rfl rfl rfl ?_
  refine cv_aload_n (i := 0) (q := 64) 2 C dX4_add_63 rfl rfl rfl ?_
  refine cv_get (q := 67) C iX4_add_X4 0 rfl rfl 9 (by decide) (List.mem_of_getElem? (i := 5) rfl) rfl rfl dX4_add_64 rfl ?_
  refine cv_aload_n (i := 0) (q := 68) 2 C dX4_add_67 rfl rfl rfl ?_
  refine cv_get (q := 71) C iX4_add_X4 0 rfl rfl 8 (by decide) (List.mem_of_getElem? (i := 4) rfl) rfl rfl dX4_add_68 rfl ?_
  refine cv_mmax (q := 74) C (List.mem_of_getElem? (i := 6) rfl) (List.mem_of_getElem? (i := 7) rfl) (List.mem_of_getElem? (i := 8) rfl) (List.mem_of_getElem? (i := 9) rfl) (Nat.le_of_ble_eq_true rfl) (Nat.le_of_ble_eq_true rfl) dX4_add_71 rfl (Nat.zero_le _) (Nat.zero_le _) ?_
  obtain ⟨s13, es13, hm⟩ := cv_lt_s hm
  refine cv_put (q := 77) (ws' := (wX4 q cy s13)) C iX4_add_X4 tyX4 tyX4_ok nmX4 0 rfl rfl 9 (by decide) (List.mem_of_getElem? (i := 5) rfl) rfl rfl rfl rfl rfl (Nat.le_of_ble_eq_true rfl) dX4_add_74 rfl (by rw [es13]; rfl) ?_
  refine cv_iload_n (i := 3) (q := 78) 0 C dX4_add_77 rfl rfl rfl ?_
  refine cv_iconst (v := -1) (q := 79) C dX4_add_78 (by decide) rfl ?_
  refine cv_icmp_ne (tgt := 86) (q := 82) C dX4_add_79 (by decide) rfl (fun h14 => ?_) (fun h14 => ?_)
  · have hm := cv_if_f h14 hm
    refine cv_aload_n (i := 0) (q := 87) 2 C dX4_add_86 rfl rfl rfl ?_
    refine cv_iload_n (i := 3) (q := 88) 0 C dX4_add_87 rfl rfl rfl ?_
    obtain ⟨r15, hr15, hm⟩ := cv_bd_s hm
    refine cv_goW (q := 91) C (KX4_build (l := l) (σ := σ) (D := D) (cy := cy)  q  s13 r2 hr15) (cv_rv (As := [.int r2]) (st := []) (n := 1) (q0 := 0) (ci := 4) C (KX4_build (l := l) (σ := σ) (D := D) (cy := cy)  q  s13 r2 hr15) rfl rfl gX4_add_X4_build rfl ⟨rfl, rfl⟩ (by decide +kernel) rfl ⟨Nat.le_of_ble_eq_true rfl, Nat.le_of_ble_eq_true rfl⟩ rfl (Nat.le_of_ble_eq_true rfl) dX4_add_88 ⟨Nat.zero_le _, Nat.zero_le _⟩) rfl ?_
    obtain rfl := Option.some.inj hm
    exact cv_iret C hr hk dX4_add_91
  · have hm := cv_if_t h14 hm
    refine cv_iconst (v := 0) (q := 83) C dX4_add_82 (by decide) rfl ?_
    refine cv_goto (tgt := 91) C dX4_add_83 (by decide) ?_
    obtain rfl := Option.some.inj hm
    exact cv_iret C hr hk dX4_add_91
def fX4_liftLeast_L12 (u1 : Int32) : Nat → Int32 → Int32 → Int32 → SX4 → Option (Int32 × Int32 × SX4)
  | 0, _, _, _, _ => none
  | n + 1, y2, y3, y4, S =>
    if (40 : Int32) ≤ y4 then
      (
      some (y2, y3, S)
      )
    else
      (
      cv_gd (0 ≤ (y3).toInt ∧ (y3).toInt < 100) <|
      cv_bd (fX4_has S ((gX4_lefts S) (y3).toNatClampNeg)) fun r5 =>
      if r5 = 0 then
        (
        some (y2, y3, S)
        )
      else
        (
        cv_gd (0 ≤ (y3).toInt ∧ (y3).toInt < 100) <|
        cv_gd (0 ≤ (y3).toInt ∧ (y3).toInt < 100) <|
        cv_lt (sX4_sizes S (upd (gX4_sizes S) (y3).toNatClampNeg (((gX4_sizes S) (y3).toNatClampNeg) - (1 : Int32)))) fun s9 =>
        cv_gd (0 ≤ (y3).toInt ∧ (y3).toInt < 100) <|
        cv_lt (((gX4_lefts s9) (y3).toNatClampNeg)) fun x11 =>
        cv_lt (y4 + (1 : Int32)) fun x12 =>
        fX4_liftLeast_L12 u1 n y3 x11 x12 s9
        )
      )
def fX4_liftLeast (S : SX4) (a1 : Int32) : Option (Int32 × SX4) :=
  cv_gd (0 ≤ (a1).toInt ∧ (a1).toInt < 100) <|
  cv_lt (((gX4_rights S) (a1).toNatClampNeg)) fun x2 =>
  cv_bd (fX4_liftLeast_L12 a1 256 a1 x2 (0 : Int32) S) fun j13 =>
  cv_bd (
    if j13.1 = a1 then
      (
      some j13.2.2
      )
    else
      (
      cv_gd (0 ≤ (j13.2.1).toInt ∧ (j13.2.1).toInt < 100) <|
      cv_gd (0 ≤ (j13.1).toInt ∧ (j13.1).toInt < 100) <|
      cv_lt (sX4_lefts j13.2.2 (upd (gX4_lefts j13.2.2) (j13.1).toNatClampNeg ((gX4_rights j13.2.2) (j13.2.1).toNatClampNeg))) fun s26 =>
      cv_gd (0 ≤ (a1).toInt ∧ (a1).toInt < 100) <|
      cv_gd (0 ≤ (j13.2.1).toInt ∧ (j13.2.1).toInt < 100) <|
      cv_lt (sX4_rights s26 (upd (gX4_rights s26) (j13.2.1).toNatClampNeg ((gX4_rights s26) (a1).toNatClampNeg))) fun s29 =>
      some s29
      )
  ) fun j15 =>
  cv_gd (0 ≤ (a1).toInt ∧ (a1).toInt < 100) <|
  cv_gd (0 ≤ (j13.2.1).toInt ∧ (j13.2.1).toInt < 100) <|
  cv_lt (sX4_lefts j15 (upd (gX4_lefts j15) (j13.2.1).toNatClampNeg ((gX4_lefts j15) (a1).toNatClampNeg))) fun s19 =>
  cv_gd (0 ≤ (a1).toInt ∧ (a1).toInt < 100) <|
  cv_gd (0 ≤ (j13.2.1).toInt ∧ (j13.2.1).toInt < 100) <|
  cv_lt (sX4_sizes s19 (upd (gX4_sizes s19) (j13.2.1).toNatClampNeg ((gX4_sizes s19) (a1).toNatClampNeg))) fun s22 =>
  some (j13.2.1, s22)
abbrev rX4_liftLeast : Room := { frames := 1, cells := 0, slots := 0, locals := 21 }
theorem iX4_liftLeast_X4 : ∀ w ∈ u_ws RX4 TX4 12, w ∈ wsX4_liftLeast := fun w h => List.mem_cons_of_mem _ (List.mem_append_right _ h)
set_option maxHeartbeats 4000000 in
set_option maxRecDepth 100000 in
theorem vX4_liftLeast_L12 {p : Program} {l : Launch} {e : Env} {s : State} {m : MethodId} {args : Array Value} {below : List Frame} {meth : Method} {c : Code} {σ : Nat → Nat} {D : va_G} {A : Nat → Prop} {cy : ClassId} (q : Nat → Nat) (u1 : Int32) (C : cv_C p s m args c cX4_liftLeast 5 RX4 wsX4_liftLeast σ D [(cy, .int)] A) {Q : State → Prop} {j : Int32 × Int32 × SX4} : ∀ (n : Nat) (y2 : Int32) (y3 : Int32) (y4 : Int32) (S : SX4), fX4_liftLeast_L12 u1 n y2 y3 y4 S = some j → cv_V p l e rX4_liftLeast s m args below meth c 5 D A Q 0 0 (wX4 q cy j.2.2) 57 [(0, .ref (q 0)), (1, .int u1), (2, .int j.1), (3, .int j.2.1)] [] → cv_V p l e rX4_liftLeast s m args below meth c 5 D A Q 0 0 (wX4 q cy S) 12 [(0, .ref (q 0)), (1, .int u1), (2, .int y2), (3, .int y3), (4, .int y4)] [] := by
  intro n
  induction n with
  | zero => intro y2 y3 y4 S hm kx; cases hm
  | succ n ih =>
    intro y2 y3 y4 S hm kx
    have hm : fX4_liftLeast_L12 u1 (n + 1) y2 y3 y4 S = some j := hm
    unfold fX4_liftLeast_L12 at hm
    refine cv_iload (i := 4) (q := 14) 4 C dX4_liftLeast_12 rfl rfl ?_
    refine cv_bipush (v := 40) (q := 16) C dX4_liftLeast_14 (by decide) rfl ?_
    refine cv_icmp_ge (tgt := 57) (q := 19) C dX4_liftLeast_16 (by decide) rfl (fun h3 => ?_) (fun h3 => ?_)
    · have hm := cv_if_t h3 hm
      obtain rfl := Option.some.inj hm
      refine cv_sub [0, 1, 2, 3] rfl ?_
      exact kx
    · have hm := cv_if_f h3 hm
      refine cv_aload_n (i := 0) (q := 20) 0 C dX4_liftLeast_19 rfl rfl rfl ?_
      refine cv_aload_n (i := 0) (q := 21) 0 C dX4_liftLeast_20 rfl rfl rfl ?_
      refine cv_get (q := 24) C iX4_liftLeast_X4 0 rfl rfl 0 (by decide) (List.mem_of_getElem? (i := 2) rfl) rfl rfl dX4_liftLeast_21 rfl ?_
      refine cv_iload_n (i := 3) (q := 25) 3 C dX4_liftLeast_24 rfl rfl rfl ?_
      obtain ⟨g4, hm⟩ := cv_gd_s hm
      refine cv_iald (q := 26) C 1 0 rfl rfl (vp_in_iff.mpr g4) dX4_liftLeast_25 rfl ?_
      obtain ⟨r5, hr5, hm⟩ := cv_bd_s hm
      refine cv_goW (q := 29) C (KX4_has (l := l) (σ := σ) (D := D) (cy := cy)  q  S ((gX4_lefts S) (y3).toNatClampNeg) hr5) (cv_rv (As := [.int ((gX4_lefts S) (y3).toNatClampNeg)]) (st := []) (n := 1) (q0 := 0) (ci := 4) C (KX4_has (l := l) (σ := σ) (D := D) (cy := cy)  q  S ((gX4_lefts S) (y3).toNatClampNeg) hr5) rfl rfl gX4_liftLeast_X4_has rfl ⟨rfl, rfl⟩ (by decide +kernel) rfl ⟨Nat.le_of_ble_eq_true rfl, Nat.le_of_ble_eq_true rfl⟩ rfl (Nat.le_of_ble_eq_true rfl) dX4_liftLeast_26 ⟨Nat.zero_le _, Nat.zero_le _⟩) rfl ?_
      refine cv_if_eq (tgt := 57) (q := 32) C dX4_liftLeast_29 (by decide) rfl (fun h6 => ?_) (fun h6 => ?_)
      · have hm := cv_if_t h6 hm
        obtain rfl := Option.some.inj hm
        refine cv_sub [0, 1, 2, 3] rfl ?_
        exact kx
      · have hm := cv_if_f h6 hm
        refine cv_aload_n (i := 0) (q := 33) 0 C dX4_liftLeast_32 rfl rfl rfl ?_
        refine cv_get (q := 36) C iX4_liftLeast_X4 0 rfl rfl 2 (by decide) (List.mem_of_getElem? (i := 3) rfl) rfl rfl dX4_liftLeast_33 rfl ?_
        refine cv_iload_n (i := 3) (q := 37) 3 C dX4_liftLeast_36 rfl rfl rfl ?_
        refine cv_dup2 (q := 38) C dX4_liftLeast_37 rfl rfl rfl ?_
        obtain ⟨g7, hm⟩ := cv_gd_s hm
        refine cv_iald (q := 39) C 3 0 rfl rfl (vp_in_iff.mpr g7) dX4_liftLeast_38 rfl ?_
        refine cv_iconst (v := 1) (q := 40) C dX4_liftLeast_39 (by decide) rfl ?_
        refine cv_isub (q := 41) C dX4_liftLeast_40 rfl ?_
        obtain ⟨g8, hm⟩ := cv_gd_s hm
        obtain ⟨s9, es9, hm⟩ := cv_lt_s hm
        refine cv_iast (q := 42) (ws' := (wX4 q cy s9)) C 3 0 rfl rfl (vp_in_iff.mpr g8) dX4_liftLeast_41 rfl (by rw [es9]; rfl) ?_
        refine cv_iload_n (i := 3) (q := 43) 3 C dX4_liftLeast_42 rfl rfl rfl ?_
        refine cv_istore_n (i := 2) (lv' := [(2, .int y3), (0, .ref (q 0)), (1, .int u1), (3, .int y3), (4, .int y4)]) (q := 44) C dX4_liftLeast_43 rfl (by decide) rfl rfl ?_
        refine cv_aload_n (i := 0) (q := 45) 1 C dX4_liftLeast_44 rfl rfl rfl ?_
        refine cv_get (q := 48) C iX4_liftLeast_X4 0 rfl rfl 0 (by decide) (List.mem_of_getElem? (i := 2) rfl) rfl rfl dX4_liftLeast_45 rfl ?_
        refine cv_iload_n (i := 3) (q := 49) 3 C dX4_liftLeast_48 rfl rfl rfl ?_
        obtain ⟨g10, hm⟩ := cv_gd_s hm
        refine cv_iald (q := 50) C 1 0 rfl rfl (vp_in_iff.mpr g10) dX4_liftLeast_49 rfl ?_
        obtain ⟨x11, ex11, hm⟩ := cv_lt_s hm
        refine cv_topi ex11 ?_
        refine cv_istore_n (i := 3) (lv' := [(3, .int x11), (2, .int y3), (0, .ref (q 0)), (1, .int u1), (4, .int y4)]) (q := 51) C dX4_liftLeast_50 rfl (by decide) rfl rfl ?_
        obtain ⟨x12, ex12, hm⟩ := cv_lt_s hm
        refine cv_iinc (v := x12) (lv' := [(4, .int x12), (3, .int x11), (2, .int y3), (0, .ref (q 0)), (1, .int u1)]) (q := 54) 4 C dX4_liftLeast_51 rfl (by rw [ex12]; rfl) (by decide) rfl rfl ?_
        refine cv_goto (tgt := 12) C dX4_liftLeast_54 (by decide) ?_
        refine cv_sub [3, 4, 2, 1, 0] rfl ?_
        exact ih y3 x11 x12 s9 hm kx
set_option maxHeartbeats 4000000 in
set_option maxRecDepth 100000 in
theorem KX4_liftLeast {l : Launch} {σ : Nat → Nat} {D : va_G} {cy : ClassId} (q : Nat → Nat) (S : SX4) (a1 : Int32) {res : Int32 × SX4} (hm : fX4_liftLeast S a1 = some res) : cv_M l yX4_liftLeast wsX4_liftLeast rX4_liftLeast σ D [(cy, .int)] [.ref (q 0), .int a1] (wX4 q cy S) (some (.int res.1)) (wX4 q cy res.2) := by
  unfold fX4_liftLeast at hm
  refine cv_M.of (own := RX4) (by decide +kernel) rfl rfl (lv := [(0, .ref (q 0)), (1, .int a1)]) rfl (Nat.le_of_ble_eq_true rfl) ?_
  intro p e s m args below meth c A C hr hk
  refine cv_iload_n (i := 1) (q := 1) 1 C dX4_liftLeast_0 rfl rfl rfl ?_
  refine cv_istore_n (i := 2) (lv' := [(2, .int a1), (0, .ref (q 0)), (1, .int a1)]) (q := 2) C dX4_liftLeast_1 rfl (by decide) rfl rfl ?_
  refine cv_aload_n (i := 0) (q := 3) 1 C dX4_liftLeast_2 rfl rfl rfl ?_
  refine cv_get (q := 6) C iX4_liftLeast_X4 0 rfl rfl 1 (by decide) (List.mem_of_getElem? (i := 1) rfl) rfl rfl dX4_liftLeast_3 rfl ?_
  refine cv_iload_n (i := 1) (q := 7) 2 C dX4_liftLeast_6 rfl rfl rfl ?_
  obtain ⟨g1, hm⟩ := cv_gd_s hm
  refine cv_iald (q := 8) C 2 0 rfl rfl (vp_in_iff.mpr g1) dX4_liftLeast_7 rfl ?_
  obtain ⟨x2, ex2, hm⟩ := cv_lt_s hm
  refine cv_topi ex2 ?_
  refine cv_istore_n (i := 3) (lv' := [(3, .int x2), (2, .int a1), (0, .ref (q 0)), (1, .int a1)]) (q := 9) C dX4_liftLeast_8 rfl (by decide) rfl rfl ?_
  refine cv_iconst (v := 0) (q := 10) C dX4_liftLeast_9 (by decide) rfl ?_
  refine cv_istore (i := 4) (lv' := [(4, .int (0 : Int32)), (3, .int x2), (2, .int a1), (0, .ref (q 0)), (1, .int a1)]) (q := 12) C dX4_liftLeast_10 (by decide) rfl rfl ?_
  obtain ⟨j13, hj13, hm⟩ := cv_bd_s hm
  refine cv_cut (ws' := (wX4 q cy j13.2.2)) (pc' := 57) (lv' := [(0, .ref (q 0)), (1, .int a1), (2, .int j13.1), (3, .int j13.2.1)]) (st' := []) ?_ (fun K14 => ?_)
  · refine cv_iload_n (i := 2) (q := 58) 2 C dX4_liftLeast_57 rfl rfl rfl ?_
    refine cv_iload_n (i := 1) (q := 59) 1 C dX4_liftLeast_58 rfl rfl rfl ?_
    obtain ⟨j15, hj15, hm⟩ := cv_bd_s hm
    refine cv_cut (ws' := (wX4 q cy j15)) (pc' := 86) (lv' := [(0, .ref (q 0)), (1, .int a1), (3, .int j13.2.1)]) (st' := []) ?_ (fun K16 => ?_)
    · refine cv_aload_n (i := 0) (q := 87) 0 C dX4_liftLeast_86 rfl rfl rfl ?_
      refine cv_get (q := 90) C iX4_liftLeast_X4 0 rfl rfl 0 (by decide) (List.mem_of_getElem? (i := 2) rfl) rfl rfl dX4_liftLeast_87 rfl ?_
      refine cv_iload_n (i := 3) (q := 91) 2 C dX4_liftLeast_90 rfl rfl rfl ?_
      refine cv_aload_n (i := 0) (q := 92) 0 C dX4_liftLeast_91 rfl rfl rfl ?_
      refine cv_get (q := 95) C iX4_liftLeast_X4 0 rfl rfl 0 (by decide) (List.mem_of_getElem? (i := 2) rfl) rfl rfl dX4_liftLeast_92 rfl ?_
      refine cv_iload_n (i := 1) (q := 96) 1 C dX4_liftLeast_95 rfl rfl rfl ?_
      obtain ⟨g17, hm⟩ := cv_gd_s hm
      refine cv_iald (q := 97) C 1 0 rfl rfl (vp_in_iff.mpr g17) dX4_liftLeast_96 rfl ?_
      obtain ⟨g18, hm⟩ := cv_gd_s hm
      obtain ⟨s19, es19, hm⟩ := cv_lt_s hm
      refine cv_iast (q := 98) (ws' := (wX4 q cy s19)) C 1 0 rfl rfl (vp_in_iff.mpr g18) dX4_liftLeast_97 rfl (by rw [es19]; rfl) ?_
      refine cv_aload_n (i := 0) (q := 99) 0 C dX4_liftLeast_98 rfl rfl rfl ?_
      refine cv_get (q := 102) C iX4_liftLeast_X4 0 rfl rfl 2 (by decide) (List.mem_of_getElem? (i := 3) rfl) rfl rfl dX4_liftLeast_99 rfl ?_
      refine cv_iload_n (i := 3) (q := 103) 2 C dX4_liftLeast_102 rfl rfl rfl ?_
      refine cv_aload_n (i := 0) (q := 104) 0 C dX4_liftLeast_103 rfl rfl rfl ?_
      refine cv_get (q := 107) C iX4_liftLeast_X4 0 rfl rfl 2 (by decide) (List.mem_of_getElem? (i := 3) rfl) rfl rfl dX4_liftLeast_104 rfl ?_
      refine cv_iload_n (i := 1) (q := 108) 1 C dX4_liftLeast_107 rfl rfl rfl ?_
      obtain ⟨g20, hm⟩ := cv_gd_s hm
      refine cv_iald (q := 109) C 3 0 rfl rfl (vp_in_iff.mpr g20) dX4_liftLeast_108 rfl ?_
      obtain ⟨g21, hm⟩ := cv_gd_s hm
      obtain ⟨s22, es22, hm⟩ := cv_lt_s hm
      refine cv_iast (q := 110) (ws' := (wX4 q cy s22)) C 3 0 rfl rfl (vp_in_iff.mpr g21) dX4_liftLeast_109 rfl (by rw [es22]; rfl) ?_
      refine cv_iload_n (i := 3) (q := 111) 2 C dX4_liftLeast_110 rfl rfl rfl ?_
      obtain rfl := Option.some.inj hm
      exact cv_iret C hr hk dX4_liftLeast_111
    · have hm := hj15
      refine cv_icmp_eq (tgt := 86) (q := 62) C dX4_liftLeast_59 (by decide) rfl (fun h23 => ?_) (fun h23 => ?_)
      · have hm := cv_if_t h23 hm
        obtain rfl := Option.some.inj hm
        refine cv_sub [0, 1, 3] rfl ?_
        exact K16
      · have hm := cv_if_f h23 hm
        refine cv_aload_n (i := 0) (q := 63) 0 C dX4_liftLeast_62 rfl rfl rfl ?_
        refine cv_get (q := 66) C iX4_liftLeast_X4 0 rfl rfl 0 (by decide) (List.mem_of_getElem? (i := 2) rfl) rfl rfl dX4_liftLeast_63 rfl ?_
        refine cv_iload_n (i := 2) (q := 67) 2 C dX4_liftLeast_66 rfl rfl rfl ?_
        refine cv_aload_n (i := 0) (q := 68) 0 C dX4_liftLeast_67 rfl rfl rfl ?_
        refine cv_get (q := 71) C iX4_liftLeast_X4 0 rfl rfl 1 (by decide) (List.mem_of_getElem? (i := 1) rfl) rfl rfl dX4_liftLeast_68 rfl ?_
        refine cv_iload_n (i := 3) (q := 72) 3 C dX4_liftLeast_71 rfl rfl rfl ?_
        obtain ⟨g24, hm⟩ := cv_gd_s hm
        refine cv_iald (q := 73) C 2 0 rfl rfl (vp_in_iff.mpr g24) dX4_liftLeast_72 rfl ?_
        obtain ⟨g25, hm⟩ := cv_gd_s hm
        obtain ⟨s26, es26, hm⟩ := cv_lt_s hm
        refine cv_iast (q := 74) (ws' := (wX4 q cy s26)) C 1 0 rfl rfl (vp_in_iff.mpr g25) dX4_liftLeast_73 rfl (by rw [es26]; rfl) ?_
        refine cv_aload_n (i := 0) (q := 75) 0 C dX4_liftLeast_74 rfl rfl rfl ?_
        refine cv_get (q := 78) C iX4_liftLeast_X4 0 rfl rfl 1 (by decide) (List.mem_of_getElem? (i := 1) rfl) rfl rfl dX4_liftLeast_75 rfl ?_
        refine cv_iload_n (i := 3) (q := 79) 3 C dX4_liftLeast_78 rfl rfl rfl ?_
        refine cv_aload_n (i := 0) (q := 80) 0 C dX4_liftLeast_79 rfl rfl rfl ?_
        refine cv_get (q := 83) C iX4_liftLeast_X4 0 rfl rfl 1 (by decide) (List.mem_of_getElem? (i := 1) rfl) rfl rfl dX4_liftLeast_80 rfl ?_
        refine cv_iload_n (i := 1) (q := 84) 1 C dX4_liftLeast_83 rfl rfl rfl ?_
        obtain ⟨g27, hm⟩ := cv_gd_s hm
        refine cv_iald (q := 85) C 2 0 rfl rfl (vp_in_iff.mpr g27) dX4_liftLeast_84 rfl ?_
        obtain ⟨g28, hm⟩ := cv_gd_s hm
        obtain ⟨s29, es29, hm⟩ := cv_lt_s hm
        refine cv_iast (q := 86) (ws' := (wX4 q cy s29)) C 2 0 rfl rfl (vp_in_iff.mpr g28) dX4_liftLeast_85 rfl (by rw [es29]; rfl) ?_
        obtain rfl := Option.some.inj hm
        refine cv_sub [0, 1, 3] rfl ?_
        exact K16
  · refine cv_sub [3, 4, 2, 1, 0] rfl ?_
    exact vX4_liftLeast_L12 q a1 C 256 a1 x2 (0 : Int32) S hj13 K14
