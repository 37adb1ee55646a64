def fX3_begin (S : SX3) (a1 : Int32) (a2 : Int32) (a3 : Int32) : Option (SX3) :=
  cv_bd (fX4_begin (gX3_tree S) a1 a2) fun r1 =>
  cv_lt (sX3_tree S r1) fun s2 =>
  cv_lt (sX3_log s2 (sX0_length (gX3_log s2) (0 : Int32))) fun s3 =>
  cv_lt (sX3_seen s3 (sX2_length (gX3_seen s3) (0 : Int32))) fun s4 =>
  cv_lt (sX3_fee s4 a3) fun s5 =>
  cv_lt (sX3_credit s5 (0 : Int32)) fun s6 =>
  cv_lt (sX3_lowest s6 (0 : Int32)) fun s7 =>
  some s7
abbrev rX3_begin : Room := { frames := 2, cells := 0, slots := 0, locals := 45 }
theorem iX3_begin_X0 : ∀ w ∈ u_ws RX0 TX0 2, w ∈ wsX3_begin := fun w h => List.mem_cons_of_mem _ (List.mem_append_left _ (List.mem_append_left _ (List.mem_append_right _ h)))
theorem iX3_begin_X2 : ∀ w ∈ u_ws RX2 TX2 3, w ∈ wsX3_begin := fun w h => List.mem_cons_of_mem _ (List.mem_append_left _ (List.mem_append_right _ h))
theorem iX3_begin_X3 : ∀ w ∈ u_ws RX3 TX3 8, w ∈ wsX3_begin := fun w h => List.mem_cons_of_mem _ (List.mem_append_left _ (List.mem_append_left _ (List.mem_append_left _ (List.mem_append_right _ h))))
set_option maxHeartbeats 4000000 in
set_option maxRecDepth 100000 in
theorem KX3_begin {l : Launch} {σ : Nat → Nat} {D : va_G} {cy : ClassId} (q : Nat → Nat) (S : SX3) (a1 : Int32) (a2 : Int32) (a3 : Int32) {res : SX3} (hm : fX3_begin S a1 a2 a3 = some res) : cv_M l yX3_begin wsX3_begin rX3_begin σ D [(cy, .int)] [.ref (q 0), .int a1, .int a2, .int a3] (wX3 q cy S) none (wX3 q cy res) := by
  unfold fX3_begin at hm
  refine cv_M.of (own := RX3) (by decide +kernel) rfl rfl (lv := [(0, .ref (q 0)), (1, .int a1), (2, .int a2), (3, .int a3)]) rfl (Nat.le_of_ble_eq_true rfl) ?_
  intro p e s m args below meth c A C hr hk
  refine cv_aload_n (i := 0) (q := 1) 0 C dX3_begin_0 rfl rfl rfl ?_
  refine cv_get (q := 4) C iX3_begin_X3 0 rfl rfl 0 (by decide) (List.mem_of_getElem? (i := 1) rfl) rfl rfl dX3_begin_1 rfl ?_
  refine cv_iload_n (i := 1) (q := 5) 1 C dX3_begin_4 rfl rfl rfl ?_
  refine cv_iload_n (i := 2) (q := 6) 2 C dX3_begin_5 rfl rfl rfl ?_
  obtain ⟨r1, hr1, hm⟩ := cv_bd_s hm
  obtain ⟨s2, es2, hm⟩ := cv_lt_s hm
  refine cv_go (q := 9) (ws' := (wX3 q cy s2)) C (KX4_begin (l := l) (σ := σ) (D := D) (cy := cy)  (cv_sh q 1)  (gX3_tree S) a1 a2 hr1) (cv_rv (As := [.int a1, .int a2]) (st := []) (n := 2) (q0 := 1) (ci := 4) C (KX4_begin (l := l) (σ := σ) (D := D) (cy := cy)  (cv_sh q 1)  (gX3_tree S) a1 a2 hr1) rfl rfl gX3_begin_X4_begin rfl ⟨rfl, rfl⟩ (by decide +kernel) rfl ⟨Nat.le_of_ble_eq_true rfl, Nat.le_of_ble_eq_true rfl⟩ rfl (Nat.le_of_ble_eq_true rfl) dX3_begin_6 ⟨Nat.zero_le _, Nat.zero_le _⟩) [1, 2, 3, 4, 5, 6] [0, 7, 8, 9, 10, 11, 12, 13] rfl (wr := cv_pk (wX3 q cy S) [0, 7, 8, 9, 10, 11, 12, 13]) rfl (by decide) (by decide) (by decide) [0, 8, 9, 10, 11, 12, 13, 1, 2, 3, 4, 5, 6, 7] (by decide) (by rw [es2]; rfl) rfl ?_
  refine cv_aload_n (i := 0) (q := 10) 0 C dX3_begin_9 rfl rfl rfl ?_
  refine cv_get (q := 13) C iX3_begin_X3 0 rfl rfl 3 (by decide) (List.mem_of_getElem? (i := 2) rfl) rfl rfl dX3_begin_10 rfl ?_
  refine cv_iconst (v := 0) (q := 14) C dX3_begin_13 (by decide) rfl ?_
  obtain ⟨s3, es3, hm⟩ := cv_lt_s hm
  refine cv_put (q := 17) (ws' := (wX3 q cy s3)) C iX3_begin_X0 tyX0 tyX0_ok nmX0 9 rfl rfl 1 (by decide) (List.mem_of_getElem? (i := 3) rfl) rfl rfl rfl rfl rfl (Nat.le_of_ble_eq_true rfl) dX3_begin_14 rfl (by rw [es3]; rfl) ?_
  refine cv_aload_n (i := 0) (q := 18) 0 C dX3_begin_17 rfl rfl rfl ?_
  refine cv_get (q := 21) C iX3_begin_X3 0 rfl rfl 4 (by decide) (List.mem_of_getElem? (i := 4) rfl) rfl rfl dX3_begin_18 rfl ?_
  refine cv_iconst (v := 0) (q := 22) C dX3_begin_21 (by decide) rfl ?_
  obtain ⟨s4, es4, hm⟩ := cv_lt_s hm
  refine cv_put (q := 25) (ws' := (wX3 q cy s4)) C iX3_begin_X2 tyX2 tyX2_ok nmX2 11 rfl rfl 2 (by decide) (List.mem_of_getElem? (i := 5) rfl) rfl rfl rfl rfl rfl (Nat.le_of_ble_eq_true rfl) dX3_begin_22 rfl (by rw [es4]; rfl) ?_
  refine cv_aload_n (i := 0) (q := 26) 0 C dX3_begin_25 rfl rfl rfl ?_
  refine cv_iload_n (i := 3) (q := 27) 3 C dX3_begin_26 rfl rfl rfl ?_
  obtain ⟨s5, es5, hm⟩ := cv_lt_s hm
  refine cv_put (q := 30) (ws' := (wX3 q cy s5)) C iX3_begin_X3 tyX3 tyX3_ok nmX3 0 rfl rfl 5 (by decide) (List.mem_of_getElem? (i := 6) rfl) rfl rfl rfl rfl rfl (Nat.le_of_ble_eq_true rfl) dX3_begin_27 rfl (by rw [es5]; rfl) ?_
  refine cv_aload_n (i := 0) (q := 31) 0 C dX3_begin_30 rfl rfl rfl ?_
  refine cv_iconst (v := 0) (q := 32) C dX3_begin_31 (by decide) rfl ?_
  obtain ⟨s6, es6, hm⟩ := cv_lt_s hm
  refine cv_put (q := 35) (ws' := (wX3 q cy s6)) C iX3_begin_X3 tyX3 tyX3_ok nmX3 0 rfl rfl 6 (by decide) (List.mem_of_getElem? (i := 7) rfl) rfl rfl rfl rfl rfl (Nat.le_of_ble_eq_true rfl) dX3_begin_32 rfl (by rw [es6]; rfl) ?_
  refine cv_aload_n (i := 0) (q := 36) 0 C dX3_begin_35 rfl rfl rfl ?_
  refine cv_iconst (v := 0) (q := 37) C dX3_begin_36 (by decide) rfl ?_
  obtain ⟨s7, es7, hm⟩ := cv_lt_s hm
  refine cv_put (q := 40) (ws' := (wX3 q cy s7)) C iX3_begin_X3 tyX3 tyX3_ok nmX3 0 rfl rfl 7 (by decide) (List.mem_of_getElem? (i := 8) rfl) rfl rfl rfl rfl rfl (Nat.le_of_ble_eq_true rfl) dX3_begin_37 rfl (by rw [es7]; rfl) ?_
  obtain rfl := Option.some.inj hm
  exact cv_vret C hr hk dX3_begin_40
def fX3_copy (S : SX3) (S1 : SX3) : Option (SX3) :=
  cv_bd (fX4_copy (gX3_tree S) (gX3_tree S1)) fun r1 =>
  cv_lt (sX3_tree S r1) fun s2 =>
  cv_lt (sX3_kinds s2 (va_cpy (gX3_kinds S1) (gX3_kinds s2) ((0 : Int32)).toNatClampNeg ((0 : Int32)).toNatClampNeg ((100 : Int32)).toNatClampNeg)) fun s3 =>
  cv_lt (sX3_values s3 (va_cpy (gX3_values S1) (gX3_values s3) ((0 : Int32)).toNatClampNeg ((0 : Int32)).toNatClampNeg ((100 : Int32)).toNatClampNeg)) fun s4 =>
  cv_bd (fX0_copy (gX3_log s4) (gX3_log S1)) fun r5 =>
  cv_lt (sX3_log s4 r5) fun s6 =>
  cv_bd (fX2_copy (gX3_seen s6) (gX3_seen S1)) fun r7 =>
  cv_lt (sX3_seen s6 r7) fun s8 =>
  cv_lt (sX3_fee s8 (gX3_fee S1)) fun s9 =>
  cv_lt (sX3_credit s9 (gX3_credit S1)) fun s10 =>
  cv_lt (sX3_lowest s10 (gX3_lowest S1)) fun s11 =>
  some s11
abbrev rX3_copy : Room := { frames := 2, cells := 0, slots := 0, locals := 81 }
theorem iX3_copy_X3 : ∀ w ∈ u_ws RX3 TX3 8, w ∈ wsX3_copy := fun w h => List.mem_cons_of_mem _ (List.mem_append_left _ (List.mem_append_left _ (List.mem_append_left _ (List.mem_append_right _ h))))
set_option maxHeartbeats 4000000 in
set_option maxRecDepth 100000 in
theorem KX3_copy {l : Launch} {σ : Nat → Nat} {D : va_G} {cy : ClassId} (q : Nat → Nat) (q1 : Nat → Nat) (S : SX3) (S1 : SX3) {res : SX3} (hm : fX3_copy S S1 = some res) : cv_M l yX3_copy wsX3_copy rX3_copy σ D [(cy, .int)] [.ref (q 0), .ref (q1 0)] (wX3 q cy S ++ wX3 q1 cy S1) none (wX3 q cy res ++ wX3 q1 cy S1) := by
  unfold fX3_copy at hm
  refine cv_M.of (own := RX3) (by decide +kernel) rfl rfl (lv := [(0, .ref (q 0)), (1, .ref (q1 0))]) rfl (Nat.le_of_ble_eq_true rfl) ?_
  intro p e s m args below meth c A C hr hk
  refine cv_aload_n (i := 0) (q := 1) 0 C dX3_copy_0 rfl rfl rfl ?_
  refine cv_get (q := 4) C iX3_copy_X3 0 rfl rfl 0 (by decide) (List.mem_of_getElem? (i := 1) rfl) rfl rfl dX3_copy_1 rfl ?_
  refine cv_aload_n (i := 1) (q := 5) 1 C dX3_copy_4 rfl rfl rfl ?_
  refine cv_get (q := 8) C iX3_copy_X3 14 rfl rfl 0 (by decide) (List.mem_of_getElem? (i := 1) rfl) rfl rfl dX3_copy_5 rfl ?_
  obtain ⟨r1, hr1, hm⟩ := cv_bd_s hm
  obtain ⟨s2, es2, hm⟩ := cv_lt_s hm
  refine cv_go (q := 11) (ws' := (wX3 q cy s2 ++ wX3 q1 cy S1)) C (KX4_copy (l := l) (σ := σ) (D := D) (cy := cy)  (cv_sh q 1) (cv_sh q1 1)  (gX3_tree S) (gX3_tree S1)  hr1) (cv_rv (As := [.ref (q1 1)]) (st := []) (n := 1) (q0 := 1) (ci := 4) C (KX4_copy (l := l) (σ := σ) (D := D) (cy := cy)  (cv_sh q 1) (cv_sh q1 1)  (gX3_tree S) (gX3_tree S1)  hr1) rfl rfl gX3_copy_X4_copy rfl ⟨rfl, rfl⟩ (by decide +kernel) rfl ⟨Nat.le_of_ble_eq_true rfl, Nat.le_of_ble_eq_true rfl⟩ rfl (Nat.le_of_ble_eq_true rfl) dX3_copy_8 ⟨Nat.zero_le _, Nat.zero_le _⟩) [1, 2, 3, 4, 5, 6, 15, 16, 17, 18, 19, 20] [0, 7, 8, 9, 10, 11, 12, 13, 14, 21, 22, 23, 24, 25, 26, 27] rfl (wr := cv_pk (wX3 q cy S ++ wX3 q1 cy S1) [0, 7, 8, 9, 10, 11, 12, 13, 14, 21, 22, 23, 24, 25, 26, 27]) rfl (by decide) (by decide) (by decide) [0, 16, 17, 18, 19, 20, 21, 1, 2, 3, 4, 5, 6, 7, 8, 22, 23, 24, 25, 26, 27, 9, 10, 11, 12, 13, 14, 15] (by decide) (by rw [es2]; rfl) rfl ?_
  refine cv_aload_n (i := 1) (q := 12) 1 C dX3_copy_11 rfl rfl rfl ?_
  refine cv_get (q := 15) C iX3_copy_X3 14 rfl rfl 1 (by decide) (List.mem_of_getElem? (i := 2) rfl) rfl rfl dX3_copy_12 rfl ?_
  refine cv_iconst (v := 0) (q := 16) C dX3_copy_15 (by decide) rfl ?_
  refine cv_aload_n (i := 0) (q := 17) 0 C dX3_copy_16 rfl rfl rfl ?_
  refine cv_get (q := 20) C iX3_copy_X3 0 rfl rfl 1 (by decide) (List.mem_of_getElem? (i := 2) rfl) rfl rfl dX3_copy_17 rfl ?_
  refine cv_iconst (v := 0) (q := 21) C dX3_copy_20 (by decide) rfl ?_
  refine cv_bipush (v := 100) (q := 23) C dX3_copy_21 (by decide) rfl ?_
  obtain ⟨s3, es3, hm⟩ := cv_lt_s hm
  refine cv_copyi (q := 26) (ws' := (wX3 q cy s3 ++ wX3 q1 cy S1)) C (List.mem_of_getElem? (i := 3) rfl) (List.mem_of_getElem? (i := 4) rfl) (List.mem_of_getElem? (i := 5) rfl) (List.mem_of_getElem? (i := 6) rfl) 21 7 0 rfl rfl rfl (by decide) (by decide) (by decide) (by decide) (by decide) (Nat.le_of_ble_eq_true rfl) (by decide) dX3_copy_23 rfl (by rw [es3]; rfl) ?_
  refine cv_aload_n (i := 1) (q := 27) 1 C dX3_copy_26 rfl rfl rfl ?_
  refine cv_get (q := 30) C iX3_copy_X3 14 rfl rfl 2 (by decide) (List.mem_of_getElem? (i := 7) rfl) rfl rfl dX3_copy_27 rfl ?_
  refine cv_iconst (v := 0) (q := 31) C dX3_copy_30 (by decide) rfl ?_
  refine cv_aload_n (i := 0) (q := 32) 0 C dX3_copy_31 rfl rfl rfl ?_
  refine cv_get (q := 35) C iX3_copy_X3 0 rfl rfl 2 (by decide) (List.mem_of_getElem? (i := 7) rfl) rfl rfl dX3_copy_32 rfl ?_
  refine cv_iconst (v := 0) (q := 36) C dX3_copy_35 (by decide) rfl ?_
  refine cv_bipush (v := 100) (q := 38) C dX3_copy_36 (by decide) rfl ?_
  obtain ⟨s4, es4, hm⟩ := cv_lt_s hm
  refine cv_copyi (q := 41) (ws' := (wX3 q cy s4 ++ wX3 q1 cy S1)) C (List.mem_of_getElem? (i := 3) rfl) (List.mem_of_getElem? (i := 4) rfl) (List.mem_of_getElem? (i := 5) rfl) (List.mem_of_getElem? (i := 6) rfl) 22 8 0 rfl rfl rfl (by decide) (by decide) (by decide) (by decide) (by decide) (Nat.le_of_ble_eq_true rfl) (by decide) dX3_copy_38 rfl (by rw [es4]; rfl) ?_
  refine cv_aload_n (i := 0) (q := 42) 0 C dX3_copy_41 rfl rfl rfl ?_
  refine cv_get (q := 45) C iX3_copy_X3 0 rfl rfl 3 (by decide) (List.mem_of_getElem? (i := 8) rfl) rfl rfl dX3_copy_42 rfl ?_
  refine cv_aload_n (i := 1) (q := 46) 1 C dX3_copy_45 rfl rfl rfl ?_
  refine cv_get (q := 49) C iX3_copy_X3 14 rfl rfl 3 (by decide) (List.mem_of_getElem? (i := 8) rfl) rfl rfl dX3_copy_46 rfl ?_
  obtain ⟨r5, hr5, hm⟩ := cv_bd_s hm
  obtain ⟨s6, es6, hm⟩ := cv_lt_s hm
  refine cv_go (q := 52) (ws' := (wX3 q cy s6 ++ wX3 q1 cy S1)) C (KX0_copy (l := l) (σ := σ) (D := D) (cy := cy)  (cv_sh q 9) (cv_sh q1 9)  (gX3_log s4) (gX3_log S1)  hr5) (cv_rv (As := [.ref (q1 9)]) (st := []) (n := 1) (q0 := 9) (ci := 0) C (KX0_copy (l := l) (σ := σ) (D := D) (cy := cy)  (cv_sh q 9) (cv_sh q1 9)  (gX3_log s4) (gX3_log S1)  hr5) rfl rfl gX3_copy_X0_copy rfl ⟨rfl, rfl⟩ (by decide +kernel) rfl ⟨Nat.le_of_ble_eq_true rfl, Nat.le_of_ble_eq_true rfl⟩ rfl (Nat.le_of_ble_eq_true rfl) dX3_copy_49 ⟨Nat.zero_le _, Nat.zero_le _⟩) [9, 10, 23, 24] [0, 1, 2, 3, 4, 5, 6, 7, 8, 11, 12, 13, 14, 15, 16, 17, 18, 19, 20, 21, 22, 25, 26, 27] rfl (wr := cv_pk (wX3 q cy s4 ++ wX3 q1 cy S1) [0, 1, 2, 3, 4, 5, 6, 7, 8, 11, 12, 13, 14, 15, 16, 17, 18, 19, 20, 21, 22, 25, 26, 27]) rfl (by decide) (by decide) (by decide) [0, 1, 2, 3, 4, 5, 6, 7, 8, 24, 25, 9, 10, 11, 12, 13, 14, 15, 16, 17, 18, 19, 20, 26, 27, 21, 22, 23] (by decide) (by rw [es6]; rfl) rfl ?_
  refine cv_aload_n (i := 0) (q := 53) 0 C dX3_copy_52 rfl rfl rfl ?_
  refine cv_get (q := 56) C iX3_copy_X3 0 rfl rfl 4 (by decide) (List.mem_of_getElem? (i := 9) rfl) rfl rfl dX3_copy_53 rfl ?_
  refine cv_aload_n (i := 1) (q := 57) 1 C dX3_copy_56 rfl rfl rfl ?_
  refine cv_get (q := 60) C iX3_copy_X3 14 rfl rfl 4 (by decide) (List.mem_of_getElem? (i := 9) rfl) rfl rfl dX3_copy_57 rfl ?_
  obtain ⟨r7, hr7, hm⟩ := cv_bd_s hm
  obtain ⟨s8, es8, hm⟩ := cv_lt_s hm
  refine cv_go (q := 63) (ws' := (wX3 q cy s8 ++ wX3 q1 cy S1)) C (KX2_copy (l := l) (σ := σ) (D := D) (cy := cy)  (cv_sh q 11) (cv_sh q1 11)  (gX3_seen s6) (gX3_seen S1)  hr7) (cv_rv (As := [.ref (q1 11)]) (st := []) (n := 1) (q0 := 11) (ci := 2) C (KX2_copy (l := l) (σ := σ) (D := D) (cy := cy)  (cv_sh q 11) (cv_sh q1 11)  (gX3_seen s6) (gX3_seen S1)  hr7) rfl rfl gX3_copy_X2_copy rfl ⟨rfl, rfl⟩ (by decide +kernel) rfl ⟨Nat.le_of_ble_eq_true rfl, Nat.le_of_ble_eq_true rfl⟩ rfl (Nat.le_of_ble_eq_true rfl) dX3_copy_60 ⟨Nat.zero_le _, Nat.zero_le _⟩) [11, 12, 13, 25, 26, 27] [0, 1, 2, 3, 4, 5, 6, 7, 8, 9, 10, 14, 15, 16, 17, 18, 19, 20, 21, 22, 23, 24] rfl (wr := cv_pk (wX3 q cy s6 ++ wX3 q1 cy S1) [0, 1, 2, 3, 4, 5, 6, 7, 8, 9, 10, 14, 15, 16, 17, 18, 19, 20, 21, 22, 23, 24]) rfl (by decide) (by decide) (by decide) [0, 1, 2, 3, 4, 5, 6, 7, 8, 9, 10, 22, 23, 24, 11, 12, 13, 14, 15, 16, 17, 18, 19, 20, 21, 25, 26, 27] (by decide) (by rw [es8]; rfl) rfl ?_
  refine cv_aload_n (i := 0) (q := 64) 0 C dX3_copy_63 rfl rfl rfl ?_
  refine cv_aload_n (i := 1) (q := 65) 1 C dX3_copy_64 rfl rfl rfl ?_
  refine cv_get (q := 68) C iX3_copy_X3 14 rfl rfl 5 (by decide) (List.mem_of_getElem? (i := 10) rfl) rfl rfl dX3_copy_65 rfl ?_
  obtain ⟨s9, es9, hm⟩ := cv_lt_s hm
  refine cv_put (q := 71) (ws' := (wX3 q cy s9 ++ wX3 q1 cy S1)) C iX3_copy_X3 tyX3 tyX3_ok nmX3 0 rfl rfl 5 (by decide) (List.mem_of_getElem? (i := 10) rfl) rfl rfl rfl rfl rfl (Nat.le_of_ble_eq_true rfl) dX3_copy_68 rfl (by rw [es9]; rfl) ?_
  refine cv_aload_n (i := 0) (q := 72) 0 C dX3_copy_71 rfl rfl rfl ?_
  refine cv_aload_n (i := 1) (q := 73) 1 C dX3_copy_72 rfl rfl rfl ?_
  refine cv_get (q := 76) C iX3_copy_X3 14 rfl rfl 6 (by decide) (List.mem_of_getElem? (i := 11) rfl) rfl rfl dX3_copy_73 rfl ?_
  obtain ⟨s10, es10, hm⟩ := cv_lt_s hm
  refine cv_put (q := 79) (ws' := (wX3 q cy s10 ++ wX3 q1 cy S1)) C iX3_copy_X3 tyX3 tyX3_ok nmX3 0 rfl rfl 6 (by decide) (List.mem_of_getElem? (i := 11) rfl) rfl rfl rfl rfl rfl (Nat.le_of_ble_eq_true rfl) dX3_copy_76 rfl (by rw [es10]; rfl) ?_
  refine cv_aload_n (i := 0) (q := 80) 0 C dX3_copy_79 rfl rfl rfl ?_
  refine cv_aload_n (i := 1) (q := 81) 1 C dX3_copy_80 rfl rfl rfl ?_
  refine cv_get (q := 84) C iX3_copy_X3 14 rfl rfl 7 (by decide) (List.mem_of_getElem? (i := 12) rfl) rfl rfl dX3_copy_81 rfl ?_
  obtain ⟨s11, es11, hm⟩ := cv_lt_s hm
  refine cv_put (q := 87) (ws' := (wX3 q cy s11 ++ wX3 q1 cy S1)) C iX3_copy_X3 tyX3 tyX3_ok nmX3 0 rfl rfl 7 (by decide) (List.mem_of_getElem? (i := 12) rfl) rfl rfl rfl rfl rfl (Nat.le_of_ble_eq_true rfl) dX3_copy_84 rfl (by rw [es11]; rfl) ?_
  obtain rfl := Option.some.inj hm
  exact cv_vret C hr hk dX3_copy_87
def fX3_settle (S : SX3) (a1 : Int32) : Option (SX3) :=
  cv_lt (sX3_credit S ((gX3_credit S) - a1)) fun s1 =>
  cv_lt (sX3_lowest s1 (cv_min (gX3_lowest s1) (gX3_credit s1))) fun s2 =>
  some s2
abbrev rX3_settle : Room := { frames := 1, cells := 0, slots := 0, locals := 21 }
theorem iX3_settle_X3 : ∀ w ∈ u_ws RX3 TX3 8, w ∈ wsX3_settle := fun w h => List.mem_cons_of_mem _ (List.mem_append_right _ h)
set_option maxHeartbeats 4000000 in
set_option maxRecDepth 100000 in
theorem KX3_settle {l : Launch} {σ : Nat → Nat} {D : va_G} {cy : ClassId} (q : Nat → Nat) (S : SX3) (a1 : Int32) {res : SX3} (hm : fX3_settle S a1 = some res) : cv_M l yX3_settle wsX3_settle rX3_settle σ D [(cy, .int)] [.ref (q 0), .int a1] (wX3 q cy S) none (wX3 q cy res) := by
  unfold fX3_settle at hm
  refine cv_M.of (own := RX3) (by decide +kernel) rfl rfl (lv := [(0, .ref (q 0)), (1, .int a1)]) rfl (Nat.le_of_ble_eq_true rfl) ?_
  intro p e s m args below meth c A C hr hk
  refine cv_aload_n (i := 0) (q := 1) 0 C dX3_settle_0 rfl rfl rfl ?_
  refine cv_dup (q := 2) C dX3_settle_1 rfl rfl ?_
  refine cv_get (q := 5) C iX3_settle_X3 0 rfl rfl 6 (by decide) (List.mem_of_getElem? (i := 1) rfl) rfl rfl dX3_settle_2 rfl ?_
  refine cv_iload_n (i := 1) (q := 6) 1 C dX3_settle_5 rfl rfl rfl ?_
  refine cv_isub (q := 7) C dX3_settle_6 rfl ?_
  obtain ⟨s1, es1, hm⟩ := cv_lt_s hm
  refine cv_put (q := 10) (ws' := (wX3 q cy s1)) C iX3_settle_X3 tyX3 tyX3_ok nmX3 0 rfl rfl 6 (by decide) (List.mem_of_getElem? (i := 1) rfl) rfl rfl rfl rfl rfl (Nat.le_of_ble_eq_true rfl) dX3_settle_7 rfl (by rw [es1]; rfl) ?_
  refine cv_aload_n (i := 0) (q := 11) 0 C dX3_settle_10 rfl rfl rfl ?_
  refine cv_aload_n (i := 0) (q := 12) 0 C dX3_settle_11 rfl rfl rfl ?_
  refine cv_get (q := 15) C iX3_settle_X3 0 rfl rfl 7 (by decide) (List.mem_of_getElem? (i := 2) rfl) rfl rfl dX3_settle_12 rfl ?_
  refine cv_aload_n (i := 0) (q := 16) 0 C dX3_settle_15 rfl rfl rfl ?_
  refine cv_get (q := 19) C iX3_settle_X3 0 rfl rfl 6 (by decide) (List.mem_of_getElem? (i := 1) rfl) rfl rfl dX3_settle_16 rfl ?_
  refine cv_mmin (q := 22) C (List.mem_of_getElem? (i := 3) rfl) (List.mem_of_getElem? (i := 4) rfl) (List.mem_of_getElem? (i := 5) rfl) (List.mem_of_getElem? (i := 6) rfl) (Nat.le_of_ble_eq_true rfl) (Nat.le_of_ble_eq_true rfl) dX3_settle_19 rfl (Nat.zero_le _) (Nat.zero_le _) ?_
  obtain ⟨s2, es2, hm⟩ := cv_lt_s hm
  refine cv_put (q := 25) (ws' := (wX3 q cy s2)) C iX3_settle_X3 tyX3 tyX3_ok nmX3 0 rfl rfl 7 (by decide) (List.mem_of_getElem? (i := 2) rfl) rfl rfl rfl rfl rfl (Nat.le_of_ble_eq_true rfl) dX3_settle_22 rfl (by rw [es2]; rfl) ?_
  obtain rfl := Option.some.inj hm
  exact cv_vret C hr hk dX3_settle_25
def fX3_place (S : SX3) (a1 : Int32) (a2 : Int32) (a3 : Int32) : Option (Int32 × SX3) :=
  cv_gd (0 ≤ (a2).toInt ∧ (a2).toInt < 100) <|
  cv_lt (sX3_kinds S (upd (gX3_kinds S) (a2).toNatClampNeg a1)) fun s2 =>
  cv_gd (0 ≤ (a2).toInt ∧ (a2).toInt < 100) <|
  cv_lt (sX3_values s2 (upd (gX3_values s2) (a2).toNatClampNeg a3)) fun s4 =>
  cv_bd (fX4_has (gX3_tree s4) a2) fun r5 =>
  if r5 = 0 then
    (
    cv_bd (fX0_add (gX3_log s4) a2) fun r7 =>
    cv_lt (sX3_log s4 r7) fun s8 =>
    cv_bd (fX4_walk (gX3_tree s8) a2) fun r9 =>
    cv_lt (sX3_tree s8 r9.2) fun s10 =>
    cv_lt (sX3_credit s10 ((gX3_credit s8) + ((gX3_fee s8) * (r9.1 + (1 : Int32))))) fun s11 =>
    cv_bd (fX4_add (gX3_tree s11) a2) fun r12 =>
    cv_lt (sX3_tree s11 r12.2) fun s13 =>
    cv_bd (fX3_settle s13 r12.1) fun r14 =>
    some (r12.1, r14)
    )
  else
    (
    some ((0 : Int32), s4)
    )
abbrev rX3_place : Room := { frames := 11, cells := 0, slots := 0, locals := 270 }
theorem iX3_place_X3 : ∀ w ∈ u_ws RX3 TX3 8, w ∈ wsX3_place := fun w h => List.mem_cons_of_mem _ (List.mem_append_left _ (List.mem_append_left _ (List.mem_append_right _ h)))
set_option maxHeartbeats 4000000 in
set_option maxRecDepth 100000 in
theorem KX3_place {l : Launch} {σ : Nat → Nat} {D : va_G} {cy : ClassId} (q : Nat → Nat) (S : SX3) (a1 : Int32) (a2 : Int32) (a3 : Int32) {res : Int32 × SX3} (hm : fX3_place S a1 a2 a3 = some res) : cv_M l yX3_place wsX3_place rX3_place σ D [(cy, .int)] [.ref (q 0), .int a1, .int a2, .int a3] (wX3 q cy S) (some (.int res.1)) (wX3 q cy res.2) := by
  unfold fX3_place at hm
  refine cv_M.of (own := RX3) (by decide +kernel) rfl rfl (lv := [(0, .ref (q 0)), (1, .int a1), (2, .int a2), (3, .int a3)]) rfl (Nat.le_of_ble_eq_true rfl) ?_
  intro p e s m args below meth c A C hr hk
  refine cv_aload_n (i := 0) (q := 1) 0 C dX3_place_0 rfl rfl rfl ?_
  refine cv_get (q := 4) C iX3_place_X3 0 rfl rfl 1 (by decide) (List.mem_of_getElem? (i := 1) rfl) rfl rfl dX3_place_1 rfl ?_
  refine cv_iload_n (i := 2) (q := 5) 2 C dX3_place_4 rfl rfl rfl ?_
  refine cv_iload_n (i := 1) (q := 6) 1 C dX3_place_5 rfl rfl rfl ?_
  obtain ⟨g1, hm⟩ := cv_gd_s hm
  obtain ⟨s2, es2, hm⟩ := cv_lt_s hm
  refine cv_iast (q := 7) (ws' := (wX3 q cy s2)) C 7 0 rfl rfl (vp_in_iff.mpr g1) dX3_place_6 rfl (by rw [es2]; rfl) ?_
  refine cv_aload_n (i := 0) (q := 8) 0 C dX3_place_7 rfl rfl rfl ?_
  refine cv_get (q := 11) C iX3_place_X3 0 rfl rfl 2 (by decide) (List.mem_of_getElem? (i := 2) rfl) rfl rfl dX3_place_8 rfl ?_
  refine cv_iload_n (i := 2) (q := 12) 2 C dX3_place_11 rfl rfl rfl ?_
  refine cv_iload_n (i := 3) (q := 13) 3 C dX3_place_12 rfl rfl rfl ?_
  obtain ⟨g3, hm⟩ := cv_gd_s hm
  obtain ⟨s4, es4, hm⟩ := cv_lt_s hm
  refine cv_iast (q := 14) (ws' := (wX3 q cy s4)) C 8 0 rfl rfl (vp_in_iff.mpr g3) dX3_place_13 rfl (by rw [es4]; rfl) ?_
  refine cv_aload_n (i := 0) (q := 15) 0 C dX3_place_14 rfl rfl rfl ?_
  refine cv_get (q := 18) C iX3_place_X3 0 rfl rfl 0 (by decide) (List.mem_of_getElem? (i := 3) rfl) rfl rfl dX3_place_15 rfl ?_
  refine cv_iload_n (i := 2) (q := 19) 2 C dX3_place_18 rfl rfl rfl ?_
  obtain ⟨r5, hr5, hm⟩ := cv_bd_s hm
  refine cv_go (q := 22) (ws' := (wX3 q cy s4)) C (KX4_has (l := l) (σ := σ) (D := D) (cy := cy)  (cv_sh q 1)  (gX3_tree s4) a2 hr5) (cv_rv (As := [.int a2]) (st := []) (n := 1) (q0 := 1) (ci := 4) C (KX4_has (l := l) (σ := σ) (D := D) (cy := cy)  (cv_sh q 1)  (gX3_tree s4) a2 hr5) rfl rfl gX3_place_X4_has rfl ⟨rfl, rfl⟩ (by decide +kernel) rfl ⟨Nat.le_of_ble_eq_true rfl, Nat.le_of_ble_eq_true rfl⟩ rfl (Nat.le_of_ble_eq_true rfl) dX3_place_19 ⟨Nat.zero_le _, Nat.zero_le _⟩) [1, 2, 3, 4, 5, 6] [0, 7, 8, 9, 10, 11, 12, 13] rfl (wr := cv_pk (wX3 q cy s4) [0, 7, 8, 9, 10, 11, 12, 13]) rfl (by decide) (by decide) (by decide) [0, 8, 9, 10, 11, 12, 13, 1, 2, 3, 4, 5, 6, 7] (by decide) rfl rfl ?_
  refine cv_if_eq (tgt := 27) (q := 25) C dX3_place_22 (by decide) rfl (fun h6 => ?_) (fun h6 => ?_)
  · have hm := cv_if_t h6 hm
    refine cv_aload_n (i := 0) (q := 28) 0 C dX3_place_27 rfl rfl rfl ?_
    refine cv_get (q := 31) C iX3_place_X3 0 rfl rfl 3 (by decide) (List.mem_of_getElem? (i := 4) rfl) rfl rfl dX3_place_28 rfl ?_
    refine cv_iload_n (i := 2) (q := 32) 2 C dX3_place_31 rfl rfl rfl ?_
    obtain ⟨r7, hr7, hm⟩ := cv_bd_s hm
    obtain ⟨s8, es8, hm⟩ := cv_lt_s hm
    refine cv_go (q := 35) (ws' := (wX3 q cy s8)) C (KX0_add (l := l) (σ := σ) (D := D) (cy := cy)  (cv_sh q 9)  (gX3_log s4) a2 hr7) (cv_rv (As := [.int a2]) (st := []) (n := 1) (q0 := 9) (ci := 0) C (KX0_add (l := l) (σ := σ) (D := D) (cy := cy)  (cv_sh q 9)  (gX3_log s4) a2 hr7) rfl rfl gX3_place_X0_add rfl ⟨rfl, rfl⟩ (by decide +kernel) rfl ⟨Nat.le_of_ble_eq_true rfl, Nat.le_of_ble_eq_true rfl⟩ rfl (Nat.le_of_ble_eq_true rfl) dX3_place_32 ⟨Nat.zero_le _, Nat.zero_le _⟩) [9, 10] [0, 1, 2, 3, 4, 5, 6, 7, 8, 11, 12, 13] rfl (wr := cv_pk (wX3 q cy s4) [0, 1, 2, 3, 4, 5, 6, 7, 8, 11, 12, 13]) rfl (by decide) (by decide) (by decide) [0, 1, 2, 3, 4, 5, 6, 7, 8, 12, 13, 9, 10, 11] (by decide) (by rw [es8]; rfl) rfl ?_
    refine cv_aload_n (i := 0) (q := 36) 0 C dX3_place_35 rfl rfl rfl ?_
    refine cv_dup (q := 37) C dX3_place_36 rfl rfl ?_
    refine cv_get (q := 40) C iX3_place_X3 0 rfl rfl 6 (by decide) (List.mem_of_getElem? (i := 5) rfl) rfl rfl dX3_place_37 rfl ?_
    refine cv_aload_n (i := 0) (q := 41) 0 C dX3_place_40 rfl rfl rfl ?_
    refine cv_get (q := 44) C iX3_place_X3 0 rfl rfl 5 (by decide) (List.mem_of_getElem? (i := 6) rfl) rfl rfl dX3_place_41 rfl ?_
    refine cv_aload_n (i := 0) (q := 45) 0 C dX3_place_44 rfl rfl rfl ?_
    refine cv_get (q := 48) C iX3_place_X3 0 rfl rfl 0 (by decide) (List.mem_of_getElem? (i := 3) rfl) rfl rfl dX3_place_45 rfl ?_
    refine cv_iload_n (i := 2) (q := 49) 2 C dX3_place_48 rfl rfl rfl ?_
    obtain ⟨r9, hr9, hm⟩ := cv_bd_s hm
    obtain ⟨s10, es10, hm⟩ := cv_lt_s hm
    refine cv_go (q := 52) (ws' := (wX3 q cy s10)) C (KX4_walk (l := l) (σ := σ) (D := D) (cy := cy)  (cv_sh q 1)  (gX3_tree s8) a2 hr9) (cv_rv (As := [.int a2]) (st := [.int (gX3_fee s8), .int (gX3_credit s8), .ref (q 0)]) (n := 1) (q0 := 1) (ci := 4) C (KX4_walk (l := l) (σ := σ) (D := D) (cy := cy)  (cv_sh q 1)  (gX3_tree s8) a2 hr9) rfl rfl gX3_place_X4_walk rfl ⟨rfl, rfl⟩ (by decide +kernel) rfl ⟨Nat.le_of_ble_eq_true rfl, Nat.le_of_ble_eq_true rfl⟩ rfl (Nat.le_of_ble_eq_true rfl) dX3_place_49 ⟨Nat.zero_le _, Nat.zero_le _⟩) [1, 2, 3, 4, 5, 6] [0, 7, 8, 9, 10, 11, 12, 13] rfl (wr := cv_pk (wX3 q cy s8) [0, 7, 8, 9, 10, 11, 12, 13]) rfl (by decide) (by decide) (by decide) [0, 8, 9, 10, 11, 12, 13, 1, 2, 3, 4, 5, 6, 7] (by decide) (by rw [es10]; rfl) rfl ?_
    refine cv_iconst (v := 1) (q := 53) C dX3_place_52 (by decide) rfl ?_
    refine cv_iadd (q := 54) C dX3_place_53 rfl ?_
    refine cv_imul (q := 55) C dX3_place_54 rfl ?_
    refine cv_iadd (q := 56) C dX3_place_55 rfl ?_
    obtain ⟨s11, es11, hm⟩ := cv_lt_s hm
    refine cv_put (q := 59) (ws' := (wX3 q cy s11)) C iX3_place_X3 tyX3 tyX3_ok nmX3 0 rfl rfl 6 (by decide) (List.mem_of_getElem? (i := 5) rfl) rfl rfl rfl rfl rfl (Nat.le_of_ble_eq_true rfl) dX3_place_56 rfl (by rw [es11]; rfl) ?_
    refine cv_aload_n (i := 0) (q := 60) 0 C dX3_place_59 rfl rfl rfl ?_
    refine cv_get (q := 63) C iX3_place_X3 0 rfl rfl 0 (by decide) (List.mem_of_getElem? (i := 3) rfl) rfl rfl dX3_place_60 rfl ?_
    refine cv_iload_n (i := 2) (q := 64) 2 C dX3_place_63 rfl rfl rfl ?_
    obtain ⟨r12, hr12, hm⟩ := cv_bd_s hm
    obtain ⟨s13, es13, hm⟩ := cv_lt_s hm
    refine cv_go (q := 67) (ws' := (wX3 q cy s13)) C (KX4_add (l := l) (σ := σ) (D := D) (cy := cy)  (cv_sh q 1)  (gX3_tree s11) a2 hr12) (cv_rv (As := [.int a2]) (st := []) (n := 1) (q0 := 1) (ci := 4) C (KX4_add (l := l) (σ := σ) (D := D) (cy := cy)  (cv_sh q 1)  (gX3_tree s11) a2 hr12) rfl rfl gX3_place_X4_add rfl ⟨rfl, rfl⟩ (by decide +kernel) rfl ⟨Nat.le_of_ble_eq_true rfl, Nat.le_of_ble_eq_true rfl⟩ rfl (Nat.le_of_ble_eq_true rfl) dX3_place_64 ⟨Nat.zero_le _, Nat.zero_le _⟩) [1, 2, 3, 4, 5, 6] [0, 7, 8, 9, 10, 11, 12, 13] rfl (wr := cv_pk (wX3 q cy s11) [0, 7, 8, 9, 10, 11, 12, 13]) rfl (by decide) (by decide) (by decide) [0, 8, 9, 10, 11, 12, 13, 1, 2, 3, 4, 5, 6, 7] (by decide) (by rw [es13]; rfl) rfl ?_
    refine cv_istore (i := 4) (lv' := [(4, .int r12.1), (0, .ref (q 0)), (1, .int a1), (2, .int a2), (3, .int a3)]) (q := 69) C dX3_place_67 (by decide) rfl rfl ?_
    refine cv_aload_n (i := 0) (q := 70) 1 C dX3_place_69 rfl rfl rfl ?_
    refine cv_iload (i := 4) (q := 72) 0 C dX3_place_70 rfl rfl ?_
    obtain ⟨r14, hr14, hm⟩ := cv_bd_s hm
    refine cv_goW (q := 75) C (KX3_settle (l := l) (σ := σ) (D := D) (cy := cy)  q  s13 r12.1 hr14) (cv_rv (As := [.int r12.1]) (st := []) (n := 1) (q0 := 0) (ci := 3) C (KX3_settle (l := l) (σ := σ) (D := D) (cy := cy)  q  s13 r12.1 hr14) rfl rfl gX3_place_X3_settle rfl ⟨rfl, rfl⟩ (by decide +kernel) rfl ⟨Nat.le_of_ble_eq_true rfl, Nat.le_of_ble_eq_true rfl⟩ rfl (Nat.le_of_ble_eq_true rfl) dX3_place_72 ⟨Nat.zero_le _, Nat.zero_le _⟩) rfl ?_
    refine cv_iload (i := 4) (q := 77) 0 C dX3_place_75 rfl rfl ?_
    obtain rfl := Option.some.inj hm
    exact cv_iret C hr hk dX3_place_77
  · have hm := cv_if_f h6 hm
    refine cv_iconst (v := 0) (q := 26) C dX3_place_25 (by decide) rfl ?_
    obtain rfl := Option.some.inj hm
    exact cv_iret C hr hk dX3_place_26
def fX3_remove (S : SX3) (a1 : Int32) : Option (SX3) :=
  cv_bd (fX0_add (gX3_log S) a1) fun r1 =>
  cv_lt (sX3_log S r1) fun s2 =>
  cv_bd (fX4_walk (gX3_tree s2) a1) fun r3 =>
  cv_lt (sX3_tree s2 r3.2) fun s4 =>
  cv_lt (sX3_credit s4 ((gX3_credit s2) + ((gX3_fee s2) * r3.1))) fun s5 =>
  cv_bd (fX4_drop (gX3_tree s5) a1) fun r6 =>
  cv_lt (sX3_tree s5 r6.2) fun s7 =>
  cv_bd (fX3_settle s7 r6.1) fun r8 =>
  some r8
abbrev rX3_remove : Room := { frames := 12, cells := 0, slots := 0, locals := 289 }
theorem iX3_remove_X3 : ∀ w ∈ u_ws RX3 TX3 8, w ∈ wsX3_remove := fun w h => List.mem_cons_of_mem _ (List.mem_append_left _ (List.mem_append_left _ (List.mem_append_right _ h)))
set_option maxHeartbeats 4000000 in
set_option maxRecDepth 100000 in
theorem KX3_remove {l : Launch} {σ : Nat → Nat} {D : va_G} {cy : ClassId} (q : Nat → Nat) (S : SX3) (a1 : Int32) {res : SX3} (hm : fX3_remove S a1 = some res) : cv_M l yX3_remove wsX3_remove rX3_remove σ D [(cy, .int)] [.ref (q 0), .int a1] (wX3 q cy S) none (wX3 q cy res) := by
  unfold fX3_remove at hm
  refine cv_M.of (own := RX3) (by decide +kernel) rfl rfl (lv := [(0, .ref (q 0)), (1, .int a1)]) rfl (Nat.le_of_ble_eq_true rfl) ?_
  intro p e s m args below meth c A C hr hk
  refine cv_aload_n (i := 0) (q := 1) 0 C dX3_remove_0 rfl rfl rfl ?_
  refine cv_get (q := 4) C iX3_remove_X3 0 rfl rfl 3 (by decide) (List.mem_of_getElem? (i := 1) rfl) rfl rfl dX3_remove_1 rfl ?_
  refine cv_iload_n (i := 1) (q := 5) 1 C dX3_remove_4 rfl rfl rfl ?_
  obtain ⟨r1, hr1, hm⟩ := cv_bd_s hm
  obtain ⟨s2, es2, hm⟩ := cv_lt_s hm
  refine cv_go (q := 8) (ws' := (wX3 q cy s2)) C (KX0_add (l := l) (σ := σ) (D := D) (cy := cy)  (cv_sh q 9)  (gX3_log S) a1 hr1) (cv_rv (As := [.int a1]) (st := []) (n := 1) (q0 := 9) (ci := 0) C (KX0_add (l := l) (σ := σ) (D := D) (cy := cy)  (cv_sh q 9)  (gX3_log S) a1 hr1) rfl rfl gX3_remove_X0_add rfl ⟨rfl, rfl⟩ (by decide +kernel) rfl ⟨Nat.le_of_ble_eq_true rfl, Nat.le_of_ble_eq_true rfl⟩ rfl (Nat.le_of_ble_eq_true rfl) dX3_remove_5 ⟨Nat.zero_le _, Nat.zero_le _⟩) [9, 10] [0, 1, 2, 3, 4, 5, 6, 7, 8, 11, 12, 13] rfl (wr := cv_pk (wX3 q cy S) [0, 1, 2, 3, 4, 5, 6, 7, 8, 11, 12, 13]) rfl (by decide) (by decide) (by decide) [0, 1, 2, 3, 4, 5, 6, 7, 8, 12, 13, 9, 10, 11] (by decide) (by rw [es2]; rfl) rfl ?_
  refine cv_aload_n (i := 0) (q := 9) 0 C dX3_remove_8 rfl rfl rfl ?_
  refine cv_dup (q := 10) C dX3_remove_9 rfl rfl ?_
  refine cv_get (q := 13) C iX3_remove_X3 0 rfl rfl 6 (by decide) (List.mem_of_getElem? (i := 2) rfl) rfl rfl dX3_remove_10 rfl ?_
  refine cv_aload_n (i := 0) (q := 14) 0 C dX3_remove_13 rfl rfl rfl ?_
  refine cv_get (q := 17) C iX3_remove_X3 0 rfl rfl 5 (by decide) (List.mem_of_getElem? (i := 3) rfl) rfl rfl dX3_remove_14 rfl ?_
  refine cv_aload_n (i := 0) (q := 18) 0 C dX3_remove_17 rfl rfl rfl ?_
  refine cv_get (q := 21) C iX3_remove_X3 0 rfl rfl 0 (by decide) (List.mem_of_getElem? (i := 4) rfl) rfl rfl dX3_remove_18 rfl ?_
  refine cv_iload_n (i := 1) (q := 22) 1 C dX3_remove_21 rfl rfl rfl ?_
  obtain ⟨r3, hr3, hm⟩ := cv_bd_s hm
  obtain ⟨s4, es4, hm⟩ := cv_lt_s hm
  refine cv_go (q := 25) (ws' := (wX3 q cy s4)) C (KX4_walk (l := l) (σ := σ) (D := D) (cy := cy)  (cv_sh q 1)  (gX3_tree s2) a1 hr3) (cv_rv (As := [.int a1]) (st := [.int (gX3_fee s2), .int (gX3_credit s2), .ref (q 0)]) (n := 1) (q0 := 1) (ci := 4) C (KX4_walk (l := l) (σ := σ) (D := D) (cy := cy)  (cv_sh q 1)  (gX3_tree s2) a1 hr3) rfl rfl gX3_remove_X4_walk rfl ⟨rfl, rfl⟩ (by decide +kernel) rfl ⟨Nat.le_of_ble_eq_true rfl, Nat.le_of_ble_eq_true rfl⟩ rfl (Nat.le_of_ble_eq_true rfl) dX3_remove_22 ⟨Nat.zero_le _, Nat.zero_le _⟩) [1, 2, 3, 4, 5, 6] [0, 7, 8, 9, 10, 11, 12, 13] rfl (wr := cv_pk (wX3 q cy s2) [0, 7, 8, 9, 10, 11, 12, 13]) rfl (by decide) (by decide) (by decide) [0, 8, 9, 10, 11, 12, 13, 1, 2, 3, 4, 5, 6, 7] (by decide) (by rw [es4]; rfl) rfl ?_
  refine cv_imul (q := 26) C dX3_remove_25 rfl ?_
  refine cv_iadd (q := 27) C dX3_remove_26 rfl ?_
  obtain ⟨s5, es5, hm⟩ := cv_lt_s hm
  refine cv_put (q := 30) (ws' := (wX3 q cy s5)) C iX3_remove_X3 tyX3 tyX3_ok nmX3 0 rfl rfl 6 (by decide) (List.mem_of_getElem? (i := 2) rfl) rfl rfl rfl rfl rfl (Nat.le_of_ble_eq_true rfl) dX3_remove_27 rfl (by rw [es5]; rfl) ?_
  refine cv_aload_n (i := 0) (q := 31) 0 C dX3_remove_30 rfl rfl rfl ?_
  refine cv_aload_n (i := 0) (q := 32) 0 C dX3_remove_31 rfl rfl rfl ?_
  refine cv_get (q := 35) C iX3_remove_X3 0 rfl rfl 0 (by decide) (List.mem_of_getElem? (i := 4) rfl) rfl rfl dX3_remove_32 rfl ?_
  refine cv_iload_n (i := 1) (q := 36) 1 C dX3_remove_35 rfl rfl rfl ?_
  obtain ⟨r6, hr6, hm⟩ := cv_bd_s hm
  obtain ⟨s7, es7, hm⟩ := cv_lt_s hm
  refine cv_go (q := 39) (ws' := (wX3 q cy s7)) C (KX4_drop (l := l) (σ := σ) (D := D) (cy := cy)  (cv_sh q 1)  (gX3_tree s5) a1 hr6) (cv_rv (As := [.int a1]) (st := [.ref (q 0)]) (n := 1) (q0 := 1) (ci := 4) C (KX4_drop (l := l) (σ := σ) (D := D) (cy := cy)  (cv_sh q 1)  (gX3_tree s5) a1 hr6) rfl rfl gX3_remove_X4_drop rfl ⟨rfl, rfl⟩ (by decide +kernel) rfl ⟨Nat.le_of_ble_eq_true rfl, Nat.le_of_ble_eq_true rfl⟩ rfl (Nat.le_of_ble_eq_true rfl) dX3_remove_36 ⟨Nat.zero_le _, Nat.zero_le _⟩) [1, 2, 3, 4, 5, 6] [0, 7, 8, 9, 10, 11, 12, 13] rfl (wr := cv_pk (wX3 q cy s5) [0, 7, 8, 9, 10, 11, 12, 13]) rfl (by decide) (by decide) (by decide) [0, 8, 9, 10, 11, 12, 13, 1, 2, 3, 4, 5, 6, 7] (by decide) (by rw [es7]; rfl) rfl ?_
  obtain ⟨r8, hr8, hm⟩ := cv_bd_s hm
  refine cv_goW (q := 42) C (KX3_settle (l := l) (σ := σ) (D := D) (cy := cy)  q  s7 r6.1 hr8) (cv_rv (As := [.int r6.1]) (st := []) (n := 1) (q0 := 0) (ci := 3) C (KX3_settle (l := l) (σ := σ) (D := D) (cy := cy)  q  s7 r6.1 hr8) rfl rfl gX3_remove_X3_settle rfl ⟨rfl, rfl⟩ (by decide +kernel) rfl ⟨Nat.le_of_ble_eq_true rfl, Nat.le_of_ble_eq_true rfl⟩ rfl (Nat.le_of_ble_eq_true rfl) dX3_remove_39 ⟨Nat.zero_le _, Nat.zero_le _⟩) rfl ?_
  obtain rfl := Option.some.inj hm
  exact cv_vret C hr hk dX3_remove_42
