def fX6_restore (S : SX6) : Option (Int32 × SX6) :=
  if (gX6_keptShelf S) = (gX6_shelvesRead S) then
    (
    cv_bd (fX6_copy 200 200 (gX6_keptLeft S) (gX6_left S)) fun r2 =>
    cv_lt (sX6_left S r2) fun s3 =>
    cv_bd (fX6_copy 200 200 (gX6_keptRight s3) (gX6_right s3)) fun r4 =>
    cv_lt (sX6_right s3 r4) fun s5 =>
    cv_bd (fX6_copy 200 200 (gX6_keptAbove s5) (gX6_above s5)) fun r6 =>
    cv_lt (sX6_above s5 r6) fun s7 =>
    cv_bd (fX6_copy 200 200 (gX6_keptThere s7) (gX6_there s7)) fun r8 =>
    cv_lt (sX6_there s7 r8) fun s9 =>
    cv_bd (fX6_copy 100 100 (gX6_keptKinds s9) (gX6_kinds s9)) fun r10 =>
    cv_lt (sX6_kinds s9 r10) fun s11 =>
    cv_bd (fX6_copy 100 100 (gX6_keptValues s11) (gX6_values s11)) fun r12 =>
    cv_lt (sX6_values s11 r12) fun s13 =>
    cv_bd (fX6_copy 60 60 (gX6_keptLog s13) (gX6_log s13)) fun r14 =>
    cv_lt (sX6_log s13 r14) fun s15 =>
    cv_bd (fX6_copy 18 18 (gX6_keptSights s15) (gX6_sights s15)) fun r16 =>
    cv_lt (sX6_sights s15 r16) fun s17 =>
    cv_gd (0 ≤ ((0 : Int32)).toInt ∧ ((0 : Int32)).toInt < 2) <|
    cv_lt (sX6_root s17 (upd (gX6_root s17) ((0 : Int32)).toNatClampNeg (gX6_keptRoot s17))) fun s19 =>
    cv_gd (0 ≤ ((0 : Int32)).toInt ∧ ((0 : Int32)).toInt < 2) <|
    cv_lt (sX6_many s19 (upd (gX6_many s19) ((0 : Int32)).toNatClampNeg (gX6_keptMany s19))) fun s21 =>
    cv_gd (0 ≤ ((0 : Int32)).toInt ∧ ((0 : Int32)).toInt < 2) <|
    cv_lt (sX6_most s21 (upd (gX6_most s21) ((0 : Int32)).toNatClampNeg (gX6_keptMost s21))) fun s23 =>
    cv_gd (0 ≤ ((0 : Int32)).toInt ∧ ((0 : Int32)).toInt < 2) <|
    cv_lt (sX6_built s23 (upd (gX6_built s23) ((0 : Int32)).toNatClampNeg (gX6_keptBuilt s23))) fun s25 =>
    cv_gd (0 ≤ ((0 : Int32)).toInt ∧ ((0 : Int32)).toInt < 2) <|
    cv_lt (sX6_cost s25 (upd (gX6_cost s25) ((0 : Int32)).toNatClampNeg (gX6_keptCost s25))) fun s27 =>
    cv_lt (sX6_credit s27 (gX6_keptCredit s27)) fun s28 =>
    cv_lt (sX6_lowest s28 (gX6_keptLowest s28)) fun s29 =>
    cv_lt (sX6_logMany s29 (gX6_keptLogMany s29)) fun s30 =>
    cv_lt (sX6_seenMany s30 (gX6_keptSeen s30)) fun s31 =>
    cv_gd (0 ≤ ((0 : Int32)).toInt ∧ ((0 : Int32)).toInt < 2) <|
    some (((gX6_many s31) ((0 : Int32)).toNatClampNeg), s31)
    )
  else
    (
    some ((-103 : Int32), S)
    )
abbrev rX6_restore : Room := { frames := 1, cells := 0, slots := 0, locals := 22 }
theorem iX6_restore_X6 : ∀ w ∈ u_ws RX6 TX6 50, w ∈ wsX6_restore := fun w h => List.mem_cons_of_mem _ (List.mem_append_right _ h)
set_option maxHeartbeats 4000000 in
set_option maxRecDepth 100000 in
theorem KX6_restore {l : Launch} {σ : Nat → Nat} {D : va_G} {cy : ClassId} (q : Nat → Nat) (S : SX6) {res : Int32 × SX6} (hm : fX6_restore S = some res) : cv_M l yX6_restore wsX6_restore rX6_restore σ D [(cy, .int)] [.ref (q 0)] (wX6 q cy S) (some (.int res.1)) (wX6 q cy res.2) := by
  unfold fX6_restore at hm
  refine cv_M.of (own := RX6) (by decide +kernel) rfl rfl (lv := [(0, .ref (q 0))]) rfl (Nat.le_of_ble_eq_true rfl) ?_
  intro p e s m args below meth c A C hr hk
  refine cv_aload_n (i := 0) (q := 1) 0 C dX6_restore_0 rfl rfl rfl ?_
  refine cv_get (q := 4) C iX6_restore_X6 0 rfl rfl 31 (by decide) (List.mem_of_getElem? (i := 1) rfl) rfl rfl dX6_restore_1 rfl ?_
  refine cv_aload_n (i := 0) (q := 5) 0 C dX6_restore_4 rfl rfl rfl ?_
  refine cv_get (q := 8) C iX6_restore_X6 0 rfl rfl 23 (by decide) (List.mem_of_getElem? (i := 2) rfl) rfl rfl dX6_restore_5 rfl ?_
  refine cv_icmp_eq (tgt := 14) (q := 11) C dX6_restore_8 (by decide) rfl (fun h1 => ?_) (fun h1 => ?_)
  · have hm := cv_if_t h1 hm
    refine cv_aload_n (i := 0) (q := 15) 0 C dX6_restore_14 rfl rfl rfl ?_
    refine cv_get (q := 18) C iX6_restore_X6 0 rfl rfl 41 (by decide) (List.mem_of_getElem? (i := 3) rfl) rfl rfl dX6_restore_15 rfl ?_
    refine cv_aload_n (i := 0) (q := 19) 0 C dX6_restore_18 rfl rfl rfl ?_
    refine cv_get (q := 22) C iX6_restore_X6 0 rfl rfl 2 (by decide) (List.mem_of_getElem? (i := 4) rfl) rfl rfl dX6_restore_19 rfl ?_
    obtain ⟨r2, hr2, hm⟩ := cv_bd_s hm
    obtain ⟨s3, es3, hm⟩ := cv_lt_s hm
    refine cv_go (q := 25) (ws' := (wX6 q cy s3)) C (KX6_copy (l := l) (σ := σ) (D := D) (cy := cy)  (q 19) (q 2) 200 200 (gX6_keptLeft S) (gX6_left S)  hr2) (cv_rs (As := [.ref (q 19), .ref (q 2)]) (st := []) (n := 2) C (KX6_copy (l := l) (σ := σ) (D := D) (cy := cy)  (q 19) (q 2) 200 200 (gX6_keptLeft S) (gX6_left S)  hr2) gX6_restore_X6_copy rfl ⟨rfl, rfl⟩ (by decide +kernel) rfl ⟨Nat.le_of_ble_eq_true rfl, Nat.le_of_ble_eq_true rfl⟩ rfl (Nat.le_of_ble_eq_true rfl) dX6_restore_22 ⟨Nat.zero_le _, Nat.zero_le _⟩) [19, 2] [0, 1, 3, 4, 5, 6, 7, 8, 9, 10, 11, 12, 13, 14, 15, 16, 17, 18, 20, 21, 22, 23, 24, 25, 26] rfl (wr := cv_pk (wX6 q cy S) [0, 1, 3, 4, 5, 6, 7, 8, 9, 10, 11, 12, 13, 14, 15, 16, 17, 18, 20, 21, 22, 23, 24, 25, 26]) rfl (by decide) (by decide) (by decide) [0, 1, 26, 2, 3, 4, 5, 6, 7, 8, 9, 10, 11, 12, 13, 14, 15, 16, 17, 25, 18, 19, 20, 21, 22, 23, 24] (by decide) (by rw [es3]; rfl) rfl ?_
    refine cv_aload_n (i := 0) (q := 26) 0 C dX6_restore_25 rfl rfl rfl ?_
    refine cv_get (q := 29) C iX6_restore_X6 0 rfl rfl 42 (by decide) (List.mem_of_getElem? (i := 5) rfl) rfl rfl dX6_restore_26 rfl ?_
    refine cv_aload_n (i := 0) (q := 30) 0 C dX6_restore_29 rfl rfl rfl ?_
    refine cv_get (q := 33) C iX6_restore_X6 0 rfl rfl 3 (by decide) (List.mem_of_getElem? (i := 6) rfl) rfl rfl dX6_restore_30 rfl ?_
    obtain ⟨r4, hr4, hm⟩ := cv_bd_s hm
    obtain ⟨s5, es5, hm⟩ := cv_lt_s hm
    refine cv_go (q := 36) (ws' := (wX6 q cy s5)) C (KX6_copy (l := l) (σ := σ) (D := D) (cy := cy)  (q 20) (q 3) 200 200 (gX6_keptRight s3) (gX6_right s3)  hr4) (cv_rs (As := [.ref (q 20), .ref (q 3)]) (st := []) (n := 2) C (KX6_copy (l := l) (σ := σ) (D := D) (cy := cy)  (q 20) (q 3) 200 200 (gX6_keptRight s3) (gX6_right s3)  hr4) gX6_restore_X6_copy rfl ⟨rfl, rfl⟩ (by decide +kernel) rfl ⟨Nat.le_of_ble_eq_true rfl, Nat.le_of_ble_eq_true rfl⟩ rfl (Nat.le_of_ble_eq_true rfl) dX6_restore_33 ⟨Nat.zero_le _, Nat.zero_le _⟩) [20, 3] [0, 1, 2, 4, 5, 6, 7, 8, 9, 10, 11, 12, 13, 14, 15, 16, 17, 18, 19, 21, 22, 23, 24, 25, 26] rfl (wr := cv_pk (wX6 q cy s3) [0, 1, 2, 4, 5, 6, 7, 8, 9, 10, 11, 12, 13, 14, 15, 16, 17, 18, 19, 21, 22, 23, 24, 25, 26]) rfl (by decide) (by decide) (by decide) [0, 1, 2, 26, 3, 4, 5, 6, 7, 8, 9, 10, 11, 12, 13, 14, 15, 16, 17, 18, 25, 19, 20, 21, 22, 23, 24] (by decide) (by rw [es5]; rfl) rfl ?_
    refine cv_aload_n (i := 0) (q := 37) 0 C dX6_restore_36 rfl rfl rfl ?_
    refine cv_get (q := 40) C iX6_restore_X6 0 rfl rfl 43 (by decide) (List.mem_of_getElem? (i := 7) rfl) rfl rfl dX6_restore_37 rfl ?_
    refine cv_aload_n (i := 0) (q := 41) 0 C dX6_restore_40 rfl rfl rfl ?_
    refine cv_get (q := 44) C iX6_restore_X6 0 rfl rfl 4 (by decide) (List.mem_of_getElem? (i := 8) rfl) rfl rfl dX6_restore_41 rfl ?_
    obtain ⟨r6, hr6, hm⟩ := cv_bd_s hm
    obtain ⟨s7, es7, hm⟩ := cv_lt_s hm
    refine cv_go (q := 47) (ws' := (wX6 q cy s7)) C (KX6_copy (l := l) (σ := σ) (D := D) (cy := cy)  (q 21) (q 4) 200 200 (gX6_keptAbove s5) (gX6_above s5)  hr6) (cv_rs (As := [.ref (q 21), .ref (q 4)]) (st := []) (n := 2) C (KX6_copy (l := l) (σ := σ) (D := D) (cy := cy)  (q 21) (q 4) 200 200 (gX6_keptAbove s5) (gX6_above s5)  hr6) gX6_restore_X6_copy rfl ⟨rfl, rfl⟩ (by decide +kernel) rfl ⟨Nat.le_of_ble_eq_true rfl, Nat.le_of_ble_eq_true rfl⟩ rfl (Nat.le_of_ble_eq_true rfl) dX6_restore_44 ⟨Nat.zero_le _, Nat.zero_le _⟩) [21, 4] [0, 1, 2, 3, 5, 6, 7, 8, 9, 10, 11, 12, 13, 14, 15, 16, 17, 18, 19, 20, 22, 23, 24, 25, 26] rfl (wr := cv_pk (wX6 q cy s5) [0, 1, 2, 3, 5, 6, 7, 8, 9, 10, 11, 12, 13, 14, 15, 16, 17, 18, 19, 20, 22, 23, 24, 25, 26]) rfl (by decide) (by decide) (by decide) [0, 1, 2, 3, 26, 4, 5, 6, 7, 8, 9, 10, 11, 12, 13, 14, 15, 16, 17, 18, 19, 25, 20, 21, 22, 23, 24] (by decide) (by rw [es7]; rfl) rfl ?_
    refine cv_aload_n (i := 0) (q := 48) 0 C dX6_restore_47 rfl rfl rfl ?_
    refine cv_get (q := 51) C iX6_restore_X6 0 rfl rfl 44 (by decide) (List.mem_of_getElem? (i := 9) rfl) rfl rfl dX6_restore_48 rfl ?_
    refine cv_aload_n (i := 0) (q := 52) 0 C dX6_restore_51 rfl rfl rfl ?_
    refine cv_get (q := 55) C iX6_restore_X6 0 rfl rfl 5 (by decide) (List.mem_of_getElem? (i := 10) rfl) rfl rfl dX6_restore_52 rfl ?_
    obtain ⟨r8, hr8, hm⟩ := cv_bd_s hm
    obtain ⟨s9, es9, hm⟩ := cv_lt_s hm
    refine cv_go (q := 58) (ws' := (wX6 q cy s9)) C (KX6_copy (l := l) (σ := σ) (D := D) (cy := cy)  (q 22) (q 5) 200 200 (gX6_keptThere s7) (gX6_there s7)  hr8) (cv_rs (As := [.ref (q 22), .ref (q 5)]) (st := []) (n := 2) C (KX6_copy (l := l) (σ := σ) (D := D) (cy := cy)  (q 22) (q 5) 200 200 (gX6_keptThere s7) (gX6_there s7)  hr8) gX6_restore_X6_copy rfl ⟨rfl, rfl⟩ (by decide +kernel) rfl ⟨Nat.le_of_ble_eq_true rfl, Nat.le_of_ble_eq_true rfl⟩ rfl (Nat.le_of_ble_eq_true rfl) dX6_restore_55 ⟨Nat.zero_le _, Nat.zero_le _⟩) [22, 5] [0, 1, 2, 3, 4, 6, 7, 8, 9, 10, 11, 12, 13, 14, 15, 16, 17, 18, 19, 20, 21, 23, 24, 25, 26] rfl (wr := cv_pk (wX6 q cy s7) [0, 1, 2, 3, 4, 6, 7, 8, 9, 10, 11, 12, 13, 14, 15, 16, 17, 18, 19, 20, 21, 23, 24, 25, 26]) rfl (by decide) (by decide) (by decide) [0, 1, 2, 3, 4, 26, 5, 6, 7, 8, 9, 10, 11, 12, 13, 14, 15, 16, 17, 18, 19, 20, 25, 21, 22, 23, 24] (by decide) (by rw [es9]; rfl) rfl ?_
    refine cv_aload_n (i := 0) (q := 59) 0 C dX6_restore_58 rfl rfl rfl ?_
    refine cv_get (q := 62) C iX6_restore_X6 0 rfl rfl 45 (by decide) (List.mem_of_getElem? (i := 11) rfl) rfl rfl dX6_restore_59 rfl ?_
    refine cv_aload_n (i := 0) (q := 63) 0 C dX6_restore_62 rfl rfl rfl ?_
    refine cv_get (q := 66) C iX6_restore_X6 0 rfl rfl 12 (by decide) (List.mem_of_getElem? (i := 12) rfl) rfl rfl dX6_restore_63 rfl ?_
    obtain ⟨r10, hr10, hm⟩ := cv_bd_s hm
    obtain ⟨s11, es11, hm⟩ := cv_lt_s hm
    refine cv_go (q := 69) (ws' := (wX6 q cy s11)) C (KX6_copy (l := l) (σ := σ) (D := D) (cy := cy)  (q 23) (q 11) 100 100 (gX6_keptKinds s9) (gX6_kinds s9)  hr10) (cv_rs (As := [.ref (q 23), .ref (q 11)]) (st := []) (n := 2) C (KX6_copy (l := l) (σ := σ) (D := D) (cy := cy)  (q 23) (q 11) 100 100 (gX6_keptKinds s9) (gX6_kinds s9)  hr10) gX6_restore_X6_copy rfl ⟨rfl, rfl⟩ (by decide +kernel) rfl ⟨Nat.le_of_ble_eq_true rfl, Nat.le_of_ble_eq_true rfl⟩ rfl (Nat.le_of_ble_eq_true rfl) dX6_restore_66 ⟨Nat.zero_le _, Nat.zero_le _⟩) [23, 11] [0, 1, 2, 3, 4, 5, 6, 7, 8, 9, 10, 12, 13, 14, 15, 16, 17, 18, 19, 20, 21, 22, 24, 25, 26] rfl (wr := cv_pk (wX6 q cy s9) [0, 1, 2, 3, 4, 5, 6, 7, 8, 9, 10, 12, 13, 14, 15, 16, 17, 18, 19, 20, 21, 22, 24, 25, 26]) rfl (by decide) (by decide) (by decide) [0, 1, 2, 3, 4, 5, 6, 7, 8, 9, 10, 26, 11, 12, 13, 14, 15, 16, 17, 18, 19, 20, 21, 25, 22, 23, 24] (by decide) (by rw [es11]; rfl) rfl ?_
    refine cv_aload_n (i := 0) (q := 70) 0 C dX6_restore_69 rfl rfl rfl ?_
    refine cv_get (q := 73) C iX6_restore_X6 0 rfl rfl 46 (by decide) (List.mem_of_getElem? (i := 13) rfl) rfl rfl dX6_restore_70 rfl ?_
    refine cv_aload_n (i := 0) (q := 74) 0 C dX6_restore_73 rfl rfl rfl ?_
    refine cv_get (q := 77) C iX6_restore_X6 0 rfl rfl 13 (by decide) (List.mem_of_getElem? (i := 14) rfl) rfl rfl dX6_restore_74 rfl ?_
    obtain ⟨r12, hr12, hm⟩ := cv_bd_s hm
    obtain ⟨s13, es13, hm⟩ := cv_lt_s hm
    refine cv_go (q := 80) (ws' := (wX6 q cy s13)) C (KX6_copy (l := l) (σ := σ) (D := D) (cy := cy)  (q 24) (q 12) 100 100 (gX6_keptValues s11) (gX6_values s11)  hr12) (cv_rs (As := [.ref (q 24), .ref (q 12)]) (st := []) (n := 2) C (KX6_copy (l := l) (σ := σ) (D := D) (cy := cy)  (q 24) (q 12) 100 100 (gX6_keptValues s11) (gX6_values s11)  hr12) gX6_restore_X6_copy rfl ⟨rfl, rfl⟩ (by decide +kernel) rfl ⟨Nat.le_of_ble_eq_true rfl, Nat.le_of_ble_eq_true rfl⟩ rfl (Nat.le_of_ble_eq_true rfl) dX6_restore_77 ⟨Nat.zero_le _, Nat.zero_le _⟩) [24, 12] [0, 1, 2, 3, 4, 5, 6, 7, 8, 9, 10, 11, 13, 14, 15, 16, 17, 18, 19, 20, 21, 22, 23, 25, 26] rfl (wr := cv_pk (wX6 q cy s11) [0, 1, 2, 3, 4, 5, 6, 7, 8, 9, 10, 11, 13, 14, 15, 16, 17, 18, 19, 20, 21, 22, 23, 25, 26]) rfl (by decide) (by decide) (by decide) [0, 1, 2, 3, 4, 5, 6, 7, 8, 9, 10, 11, 26, 12, 13, 14, 15, 16, 17, 18, 19, 20, 21, 22, 25, 23, 24] (by decide) (by rw [es13]; rfl) rfl ?_
    refine cv_aload_n (i := 0) (q := 81) 0 C dX6_restore_80 rfl rfl rfl ?_
    refine cv_get (q := 84) C iX6_restore_X6 0 rfl rfl 47 (by decide) (List.mem_of_getElem? (i := 15) rfl) rfl rfl dX6_restore_81 rfl ?_
    refine cv_aload_n (i := 0) (q := 85) 0 C dX6_restore_84 rfl rfl rfl ?_
    refine cv_get (q := 88) C iX6_restore_X6 0 rfl rfl 21 (by decide) (List.mem_of_getElem? (i := 16) rfl) rfl rfl dX6_restore_85 rfl ?_
    obtain ⟨r14, hr14, hm⟩ := cv_bd_s hm
    obtain ⟨s15, es15, hm⟩ := cv_lt_s hm
    refine cv_go (q := 91) (ws' := (wX6 q cy s15)) C (KX6_copy (l := l) (σ := σ) (D := D) (cy := cy)  (q 25) (q 13) 60 60 (gX6_keptLog s13) (gX6_log s13)  hr14) (cv_rs (As := [.ref (q 25), .ref (q 13)]) (st := []) (n := 2) C (KX6_copy (l := l) (σ := σ) (D := D) (cy := cy)  (q 25) (q 13) 60 60 (gX6_keptLog s13) (gX6_log s13)  hr14) gX6_restore_X6_copy rfl ⟨rfl, rfl⟩ (by decide +kernel) rfl ⟨Nat.le_of_ble_eq_true rfl, Nat.le_of_ble_eq_true rfl⟩ rfl (Nat.le_of_ble_eq_true rfl) dX6_restore_88 ⟨Nat.zero_le _, Nat.zero_le _⟩) [25, 13] [0, 1, 2, 3, 4, 5, 6, 7, 8, 9, 10, 11, 12, 14, 15, 16, 17, 18, 19, 20, 21, 22, 23, 24, 26] rfl (wr := cv_pk (wX6 q cy s13) [0, 1, 2, 3, 4, 5, 6, 7, 8, 9, 10, 11, 12, 14, 15, 16, 17, 18, 19, 20, 21, 22, 23, 24, 26]) rfl (by decide) (by decide) (by decide) [0, 1, 2, 3, 4, 5, 6, 7, 8, 9, 10, 11, 12, 26, 13, 14, 15, 16, 17, 18, 19, 20, 21, 22, 23, 25, 24] (by decide) (by rw [es15]; rfl) rfl ?_
    refine cv_aload_n (i := 0) (q := 92) 0 C dX6_restore_91 rfl rfl rfl ?_
    refine cv_get (q := 95) C iX6_restore_X6 0 rfl rfl 48 (by decide) (List.mem_of_getElem? (i := 17) rfl) rfl rfl dX6_restore_92 rfl ?_
    refine cv_aload_n (i := 0) (q := 96) 0 C dX6_restore_95 rfl rfl rfl ?_
    refine cv_get (q := 99) C iX6_restore_X6 0 rfl rfl 29 (by decide) (List.mem_of_getElem? (i := 18) rfl) rfl rfl dX6_restore_96 rfl ?_
    obtain ⟨r16, hr16, hm⟩ := cv_bd_s hm
    obtain ⟨s17, es17, hm⟩ := cv_lt_s hm
    refine cv_go (q := 102) (ws' := (wX6 q cy s17)) C (KX6_copy (l := l) (σ := σ) (D := D) (cy := cy)  (q 26) (q 18) 18 18 (gX6_keptSights s15) (gX6_sights s15)  hr16) (cv_rs (As := [.ref (q 26), .ref (q 18)]) (st := []) (n := 2) C (KX6_copy (l := l) (σ := σ) (D := D) (cy := cy)  (q 26) (q 18) 18 18 (gX6_keptSights s15) (gX6_sights s15)  hr16) gX6_restore_X6_copy rfl ⟨rfl, rfl⟩ (by decide +kernel) rfl ⟨Nat.le_of_ble_eq_true rfl, Nat.le_of_ble_eq_true rfl⟩ rfl (Nat.le_of_ble_eq_true rfl) dX6_restore_99 ⟨Nat.zero_le _, Nat.zero_le _⟩) [26, 18] [0, 1, 2, 3, 4, 5, 6, 7, 8, 9, 10, 11, 12, 13, 14, 15, 16, 17, 19, 20, 21, 22, 23, 24, 25] rfl (wr := cv_pk (wX6 q cy s15) [0, 1, 2, 3, 4, 5, 6, 7, 8, 9, 10, 11, 12, 13, 14, 15, 16, 17, 19, 20, 21, 22, 23, 24, 25]) rfl (by decide) (by decide) (by decide) [0, 1, 2, 3, 4, 5, 6, 7, 8, 9, 10, 11, 12, 13, 14, 15, 16, 17, 26, 18, 19, 20, 21, 22, 23, 24, 25] (by decide) (by rw [es17]; rfl) rfl ?_
    refine cv_aload_n (i := 0) (q := 103) 0 C dX6_restore_102 rfl rfl rfl ?_
    refine cv_get (q := 106) C iX6_restore_X6 0 rfl rfl 6 (by decide) (List.mem_of_getElem? (i := 19) rfl) rfl rfl dX6_restore_103 rfl ?_
    refine cv_iconst (v := 0) (q := 107) C dX6_restore_106 (by decide) rfl ?_
    refine cv_aload_n (i := 0) (q := 108) 0 C dX6_restore_107 rfl rfl rfl ?_
    refine cv_get (q := 111) C iX6_restore_X6 0 rfl rfl 32 (by decide) (List.mem_of_getElem? (i := 20) rfl) rfl rfl dX6_restore_108 rfl ?_
    obtain ⟨g18, hm⟩ := cv_gd_s hm
    obtain ⟨s19, es19, hm⟩ := cv_lt_s hm
    refine cv_iast (q := 112) (ws' := (wX6 q cy s19)) C 6 0 rfl rfl (vp_in_iff.mpr g18) dX6_restore_111 rfl (by rw [es19]; rfl) ?_
    refine cv_aload_n (i := 0) (q := 113) 0 C dX6_restore_112 rfl rfl rfl ?_
    refine cv_get (q := 116) C iX6_restore_X6 0 rfl rfl 7 (by decide) (List.mem_of_getElem? (i := 21) rfl) rfl rfl dX6_restore_113 rfl ?_
    refine cv_iconst (v := 0) (q := 117) C dX6_restore_116 (by decide) rfl ?_
    refine cv_aload_n (i := 0) (q := 118) 0 C dX6_restore_117 rfl rfl rfl ?_
    refine cv_get (q := 121) C iX6_restore_X6 0 rfl rfl 33 (by decide) (List.mem_of_getElem? (i := 22) rfl) rfl rfl dX6_restore_118 rfl ?_
    obtain ⟨g20, hm⟩ := cv_gd_s hm
    obtain ⟨s21, es21, hm⟩ := cv_lt_s hm
    refine cv_iast (q := 122) (ws' := (wX6 q cy s21)) C 7 0 rfl rfl (vp_in_iff.mpr g20) dX6_restore_121 rfl (by rw [es21]; rfl) ?_
    refine cv_aload_n (i := 0) (q := 123) 0 C dX6_restore_122 rfl rfl rfl ?_
    refine cv_get (q := 126) C iX6_restore_X6 0 rfl rfl 8 (by decide) (List.mem_of_getElem? (i := 23) rfl) rfl rfl dX6_restore_123 rfl ?_
    refine cv_iconst (v := 0) (q := 127) C dX6_restore_126 (by decide) rfl ?_
    refine cv_aload_n (i := 0) (q := 128) 0 C dX6_restore_127 rfl rfl rfl ?_
    refine cv_get (q := 131) C iX6_restore_X6 0 rfl rfl 34 (by decide) (List.mem_of_getElem? (i := 24) rfl) rfl rfl dX6_restore_128 rfl ?_
    obtain ⟨g22, hm⟩ := cv_gd_s hm
    obtain ⟨s23, es23, hm⟩ := cv_lt_s hm
    refine cv_iast (q := 132) (ws' := (wX6 q cy s23)) C 8 0 rfl rfl (vp_in_iff.mpr g22) dX6_restore_131 rfl (by rw [es23]; rfl) ?_
    refine cv_aload_n (i := 0) (q := 133) 0 C dX6_restore_132 rfl rfl rfl ?_
    refine cv_get (q := 136) C iX6_restore_X6 0 rfl rfl 10 (by decide) (List.mem_of_getElem? (i := 25) rfl) rfl rfl dX6_restore_133 rfl ?_
    refine cv_iconst (v := 0) (q := 137) C dX6_restore_136 (by decide) rfl ?_
    refine cv_aload_n (i := 0) (q := 138) 0 C dX6_restore_137 rfl rfl rfl ?_
    refine cv_get (q := 141) C iX6_restore_X6 0 rfl rfl 35 (by decide) (List.mem_of_getElem? (i := 26) rfl) rfl rfl dX6_restore_138 rfl ?_
    obtain ⟨g24, hm⟩ := cv_gd_s hm
    obtain ⟨s25, es25, hm⟩ := cv_lt_s hm
    refine cv_iast (q := 142) (ws' := (wX6 q cy s25)) C 9 0 rfl rfl (vp_in_iff.mpr g24) dX6_restore_141 rfl (by rw [es25]; rfl) ?_
    refine cv_aload_n (i := 0) (q := 143) 0 C dX6_restore_142 rfl rfl rfl ?_
    refine cv_get (q := 146) C iX6_restore_X6 0 rfl rfl 11 (by decide) (List.mem_of_getElem? (i := 27) rfl) rfl rfl dX6_restore_143 rfl ?_
    refine cv_iconst (v := 0) (q := 147) C dX6_restore_146 (by decide) rfl ?_
    refine cv_aload_n (i := 0) (q := 148) 0 C dX6_restore_147 rfl rfl rfl ?_
    refine cv_get (q := 151) C iX6_restore_X6 0 rfl rfl 36 (by decide) (List.mem_of_getElem? (i := 28) rfl) rfl rfl dX6_restore_148 rfl ?_
    obtain ⟨g26, hm⟩ := cv_gd_s hm
    obtain ⟨s27, es27, hm⟩ := cv_lt_s hm
    refine cv_iast (q := 152) (ws' := (wX6 q cy s27)) C 10 0 rfl rfl (vp_in_iff.mpr g26) dX6_restore_151 rfl (by rw [es27]; rfl) ?_
    refine cv_aload_n (i := 0) (q := 153) 0 C dX6_restore_152 rfl rfl rfl ?_
    refine cv_aload_n (i := 0) (q := 154) 0 C dX6_restore_153 rfl rfl rfl ?_
    refine cv_get (q := 157) C iX6_restore_X6 0 rfl rfl 37 (by decide) (List.mem_of_getElem? (i := 29) rfl) rfl rfl dX6_restore_154 rfl ?_
    obtain ⟨s28, es28, hm⟩ := cv_lt_s hm
    refine cv_put (q := 160) (ws' := (wX6 q cy s28)) C iX6_restore_X6 tyX6 tyX6_ok nmX6 0 rfl rfl 19 (by decide) (List.mem_of_getElem? (i := 30) rfl) rfl rfl rfl rfl rfl (Nat.le_of_ble_eq_true rfl) dX6_restore_157 rfl (by rw [es28]; rfl) ?_
    refine cv_aload_n (i := 0) (q := 161) 0 C dX6_restore_160 rfl rfl rfl ?_
    refine cv_aload_n (i := 0) (q := 162) 0 C dX6_restore_161 rfl rfl rfl ?_
    refine cv_get (q := 165) C iX6_restore_X6 0 rfl rfl 38 (by decide) (List.mem_of_getElem? (i := 31) rfl) rfl rfl dX6_restore_162 rfl ?_
    obtain ⟨s29, es29, hm⟩ := cv_lt_s hm
    refine cv_put (q := 168) (ws' := (wX6 q cy s29)) C iX6_restore_X6 tyX6 tyX6_ok nmX6 0 rfl rfl 20 (by decide) (List.mem_of_getElem? (i := 32) rfl) rfl rfl rfl rfl rfl (Nat.le_of_ble_eq_true rfl) dX6_restore_165 rfl (by rw [es29]; rfl) ?_
    refine cv_aload_n (i := 0) (q := 169) 0 C dX6_restore_168 rfl rfl rfl ?_
    refine cv_aload_n (i := 0) (q := 170) 0 C dX6_restore_169 rfl rfl rfl ?_
    refine cv_get (q := 173) C iX6_restore_X6 0 rfl rfl 39 (by decide) (List.mem_of_getElem? (i := 33) rfl) rfl rfl dX6_restore_170 rfl ?_
    obtain ⟨s30, es30, hm⟩ := cv_lt_s hm
    refine cv_put (q := 176) (ws' := (wX6 q cy s30)) C iX6_restore_X6 tyX6 tyX6_ok nmX6 0 rfl rfl 22 (by decide) (List.mem_of_getElem? (i := 34) rfl) rfl rfl rfl rfl rfl (Nat.le_of_ble_eq_true rfl) dX6_restore_173 rfl (by rw [es30]; rfl) ?_
    refine cv_aload_n (i := 0) (q := 177) 0 C dX6_restore_176 rfl rfl rfl ?_
    refine cv_aload_n (i := 0) (q := 178) 0 C dX6_restore_177 rfl rfl rfl ?_
    refine cv_get (q := 181) C iX6_restore_X6 0 rfl rfl 40 (by decide) (List.mem_of_getElem? (i := 35) rfl) rfl rfl dX6_restore_178 rfl ?_
    obtain ⟨s31, es31, hm⟩ := cv_lt_s hm
    refine cv_put (q := 184) (ws' := (wX6 q cy s31)) C iX6_restore_X6 tyX6 tyX6_ok nmX6 0 rfl rfl 28 (by decide) (List.mem_of_getElem? (i := 36) rfl) rfl rfl rfl rfl rfl (Nat.le_of_ble_eq_true rfl) dX6_restore_181 rfl (by rw [es31]; rfl) ?_
    refine cv_aload_n (i := 0) (q := 185) 0 C dX6_restore_184 rfl rfl rfl ?_
    refine cv_get (q := 188) C iX6_restore_X6 0 rfl rfl 7 (by decide) (List.mem_of_getElem? (i := 21) rfl) rfl rfl dX6_restore_185 rfl ?_
    refine cv_iconst (v := 0) (q := 189) C dX6_restore_188 (by decide) rfl ?_
    obtain ⟨g32, hm⟩ := cv_gd_s hm
    refine cv_iald (q := 190) C 7 0 rfl rfl (vp_in_iff.mpr g32) dX6_restore_189 rfl ?_
    obtain rfl := Option.some.inj hm
    exact cv_iret C hr hk dX6_restore_190
  · have hm := cv_if_f h1 hm
    refine cv_bipush (v := -103) (q := 13) C dX6_restore_11 (by decide) rfl ?_
    obtain rfl := Option.some.inj hm
    exact cv_iret C hr hk dX6_restore_13
def fX6_countOf (S : SX6) (a1 : Int32) : Option (Int32) :=
  if a1 = 0 then
    (
    cv_gd (0 ≤ ((0 : Int32)).toInt ∧ ((0 : Int32)).toInt < 2) <|
    some ((gX6_many S) ((0 : Int32)).toNatClampNeg)
    )
  else
    (
    if a1 = 1 then
      (
      some (gX6_ratioA S)
      )
    else
      (
      if a1 = 2 then
        (
        some (gX6_ratioB S)
        )
      else
        (
        if a1 = 3 then
          (
          some (gX6_fee S)
          )
        else
          (
          if a1 = 4 then
            (
            some (gX6_logMany S)
            )
          else
            (
            if a1 = 5 then
              (
              some (gX6_seenMany S)
              )
            else
              (
              if a1 = 6 then
                (
                some (gX6_pageMany S)
                )
              else
                (
                if a1 = 7 then
                  (
                  some (gX6_shelvesRead S)
                  )
                else
                  (
                  some (-102 : Int32)
                  )
                )
              )
            )
          )
        )
      )
    )
abbrev rX6_countOf : Room := { frames := 0, cells := 0, slots := 0, locals := 0 }
theorem iX6_countOf_X6 : ∀ w ∈ u_ws RX6 TX6 50, w ∈ wsX6_countOf := fun w h => List.mem_cons_of_mem _ (List.mem_append_right _ h)
set_option maxHeartbeats 4000000 in
set_option maxRecDepth 100000 in
theorem KX6_countOf {l : Launch} {σ : Nat → Nat} {D : va_G} {cy : ClassId} (q : Nat → Nat) (S : SX6) (a1 : Int32) {res : Int32} (hm : fX6_countOf S a1 = some res) : cv_M l yX6_countOf wsX6_countOf rX6_countOf σ D [(cy, .int)] [.ref (q 0), .int a1] (wX6 q cy S) (some (.int res)) (wX6 q cy S) := by
  unfold fX6_countOf at hm
  refine cv_M.of (own := RX6) (by decide +kernel) rfl rfl (lv := [(0, .ref (q 0)), (1, .int a1)]) rfl (Nat.le_of_ble_eq_true rfl) ?_
  intro p e s m args below meth c A C hr hk
  refine cv_iload_n (i := 1) (q := 1) 1 C dX6_countOf_0 rfl rfl rfl ?_
  by_cases h1 : a1 = 0
  · have hm := cv_if_t h1 hm
    refine cv_tin (tgt := 48) 0 C dX6_countOf_1 h1 (by decide) (by decide) rfl (by decide) ?_
    refine cv_aload_n (i := 0) (q := 49) 0 C dX6_countOf_48 rfl rfl rfl ?_
    refine cv_get (q := 52) C iX6_countOf_X6 0 rfl rfl 7 (by decide) (List.mem_of_getElem? (i := 1) rfl) rfl rfl dX6_countOf_49 rfl ?_
    refine cv_iconst (v := 0) (q := 53) C dX6_countOf_52 (by decide) rfl ?_
    obtain ⟨g2, hm⟩ := cv_gd_s hm
    refine cv_iald (q := 54) C 7 0 rfl rfl (vp_in_iff.mpr g2) dX6_countOf_53 rfl ?_
    obtain rfl := Option.some.inj hm
    exact cv_iret C hr hk dX6_countOf_54
  · have hm := cv_if_f h1 hm
    by_cases h3 : a1 = 1
    · have hm := cv_if_t h3 hm
      refine cv_tin (tgt := 55) 1 C dX6_countOf_1 h3 (by decide) (by decide) rfl (by decide) ?_
      refine cv_aload_n (i := 0) (q := 56) 0 C dX6_countOf_55 rfl rfl rfl ?_
      refine cv_get (q := 59) C iX6_countOf_X6 0 rfl rfl 14 (by decide) (List.mem_of_getElem? (i := 2) rfl) rfl rfl dX6_countOf_56 rfl ?_
      obtain rfl := Option.some.inj hm
      exact cv_iret C hr hk dX6_countOf_59
    · have hm := cv_if_f h3 hm
      by_cases h4 : a1 = 2
      · have hm := cv_if_t h4 hm
        refine cv_tin (tgt := 60) 2 C dX6_countOf_1 h4 (by decide) (by decide) rfl (by decide) ?_
        refine cv_aload_n (i := 0) (q := 61) 0 C dX6_countOf_60 rfl rfl rfl ?_
        refine cv_get (q := 64) C iX6_countOf_X6 0 rfl rfl 15 (by decide) (List.mem_of_getElem? (i := 3) rfl) rfl rfl dX6_countOf_61 rfl ?_
        obtain rfl := Option.some.inj hm
        exact cv_iret C hr hk dX6_countOf_64
      · have hm := cv_if_f h4 hm
        by_cases h5 : a1 = 3
        · have hm := cv_if_t h5 hm
          refine cv_tin (tgt := 65) 3 C dX6_countOf_1 h5 (by decide) (by decide) rfl (by decide) ?_
          refine cv_aload_n (i := 0) (q := 66) 0 C dX6_countOf_65 rfl rfl rfl ?_
          refine cv_get (q := 69) C iX6_countOf_X6 0 rfl rfl 18 (by decide) (List.mem_of_getElem? (i := 4) rfl) rfl rfl dX6_countOf_66 rfl ?_
          obtain rfl := Option.some.inj hm
          exact cv_iret C hr hk dX6_countOf_69
        · have hm := cv_if_f h5 hm
          by_cases h6 : a1 = 4
          · have hm := cv_if_t h6 hm
            refine cv_tin (tgt := 70) 4 C dX6_countOf_1 h6 (by decide) (by decide) rfl (by decide) ?_
            refine cv_aload_n (i := 0) (q := 71) 0 C dX6_countOf_70 rfl rfl rfl ?_
            refine cv_get (q := 74) C iX6_countOf_X6 0 rfl rfl 22 (by decide) (List.mem_of_getElem? (i := 5) rfl) rfl rfl dX6_countOf_71 rfl ?_
            obtain rfl := Option.some.inj hm
            exact cv_iret C hr hk dX6_countOf_74
          · have hm := cv_if_f h6 hm
            by_cases h7 : a1 = 5
            · have hm := cv_if_t h7 hm
              refine cv_tin (tgt := 75) 5 C dX6_countOf_1 h7 (by decide) (by decide) rfl (by decide) ?_
              refine cv_aload_n (i := 0) (q := 76) 0 C dX6_countOf_75 rfl rfl rfl ?_
              refine cv_get (q := 79) C iX6_countOf_X6 0 rfl rfl 28 (by decide) (List.mem_of_getElem? (i := 6) rfl) rfl rfl dX6_countOf_76 rfl ?_
              obtain rfl := Option.some.inj hm
              exact cv_iret C hr hk dX6_countOf_79
            · have hm := cv_if_f h7 hm
              by_cases h8 : a1 = 6
              · have hm := cv_if_t h8 hm
                refine cv_tin (tgt := 80) 6 C dX6_countOf_1 h8 (by decide) (by decide) rfl (by decide) ?_
                refine cv_aload_n (i := 0) (q := 81) 0 C dX6_countOf_80 rfl rfl rfl ?_
                refine cv_get (q := 84) C iX6_countOf_X6 0 rfl rfl 1 (by decide) (List.mem_of_getElem? (i := 7) rfl) rfl rfl dX6_countOf_81 rfl ?_
                obtain rfl := Option.some.inj hm
                exact cv_iret C hr hk dX6_countOf_84
              · have hm := cv_if_f h8 hm
                by_cases h9 : a1 = 7
                · have hm := cv_if_t h9 hm
                  refine cv_tin (tgt := 85) 7 C dX6_countOf_1 h9 (by decide) (by decide) rfl (by decide) ?_
                  refine cv_aload_n (i := 0) (q := 86) 0 C dX6_countOf_85 rfl rfl rfl ?_
                  refine cv_get (q := 89) C iX6_countOf_X6 0 rfl rfl 23 (by decide) (List.mem_of_getElem? (i := 8) rfl) rfl rfl dX6_countOf_86 rfl ?_
                  obtain rfl := Option.some.inj hm
                  exact cv_iret C hr hk dX6_countOf_89
                · have hm := cv_if_f h9 hm
                  refine cv_tout (tgt := 90) C dX6_countOf_1 (by have h1t := lv_neT (a := 0) h1 (by decide); have h3t := lv_neT (a := 1) h3 (by decide); have h4t := lv_neT (a := 2) h4 (by decide); have h5t := lv_neT (a := 3) h5 (by decide); have h6t := lv_neT (a := 4) h6 (by decide); have h7t := lv_neT (a := 5) h7 (by decide); have h8t := lv_neT (a := 6) h8 (by decide); have h9t := lv_neT (a := 7) h9 (by decide); omega) (by decide) ?_
                  refine cv_bipush (v := -102) (q := 92) C dX6_countOf_90 (by decide) rfl ?_
                  obtain rfl := Option.some.inj hm
                  exact cv_iret C hr hk dX6_countOf_92
def fX6_count (S : SX6) (a1 : Int32) : Option (Int32) :=
  cv_bd (fX6_countOf S a1) fun r1 =>
  some r1
abbrev rX6_count : Room := { frames := 1, cells := 0, slots := 0, locals := 21 }
set_option maxHeartbeats 4000000 in
set_option maxRecDepth 100000 in
theorem KX6_count {l : Launch} {σ : Nat → Nat} {D : va_G} {cy : ClassId} (q : Nat → Nat) (S : SX6) (a1 : Int32) {res : Int32} (hm : fX6_count S a1 = some res) : cv_M l yX6_count wsX6_count rX6_count σ D [(cy, .int)] [.ref (q 0), .int a1] (wX6 q cy S) (some (.int res)) (wX6 q cy S) := by
  unfold fX6_count at hm
  refine cv_M.of (own := RX6) (by decide +kernel) rfl rfl (lv := [(0, .ref (q 0)), (1, .int a1)]) rfl (Nat.le_of_ble_eq_true rfl) ?_
  intro p e s m args below meth c A C hr hk
  refine cv_aload_n (i := 0) (q := 1) 0 C dX6_count_0 rfl rfl rfl ?_
  refine cv_iload_n (i := 1) (q := 2) 1 C dX6_count_1 rfl rfl rfl ?_
  obtain ⟨r1, hr1, hm⟩ := cv_bd_s hm
  refine cv_goW (q := 5) C (KX6_countOf (l := l) (σ := σ) (D := D) (cy := cy)  q  S a1 hr1) (cv_rv (As := [.int a1]) (st := []) (n := 1) (q0 := 0) (ci := 6) C (KX6_countOf (l := l) (σ := σ) (D := D) (cy := cy)  q  S a1 hr1) rfl rfl gX6_count_X6_countOf rfl ⟨rfl, rfl⟩ (by decide +kernel) rfl ⟨Nat.le_of_ble_eq_true rfl, Nat.le_of_ble_eq_true rfl⟩ rfl (Nat.le_of_ble_eq_true rfl) dX6_count_2 ⟨Nat.zero_le _, Nat.zero_le _⟩) rfl ?_
  obtain rfl := Option.some.inj hm
  exact cv_iret C hr hk dX6_count_5
def fX6_say (S : SX6) (a1 : Int64) : Option (SX6) :=
  cv_lt (sX6_hash S (((31 : Int64) * (gX6_hash S)) + a1)) fun s1 =>
  some s1
abbrev rX6_say : Room := { frames := 0, cells := 0, slots := 0, locals := 0 }
theorem iX6_say_X6 : ∀ w ∈ u_ws RX6 TX6 50, w ∈ wsX6_say := fun w h => List.mem_cons_of_mem _ (List.mem_append_right _ h)
set_option maxHeartbeats 4000000 in
set_option maxRecDepth 100000 in
theorem KX6_say {l : Launch} {σ : Nat → Nat} {D : va_G} {cy : ClassId} (q : Nat → Nat) (S : SX6) (a1 : Int64) {res : SX6} (hm : fX6_say S a1 = some res) : cv_M l yX6_say wsX6_say rX6_say σ D [(cy, .int)] [.ref (q 0), .long a1] (wX6 q cy S) none (wX6 q cy res) := by
  unfold fX6_say at hm
  refine cv_M.of (own := RX6) (by decide +kernel) rfl rfl (lv := [(0, .ref (q 0)), (1, .long a1)]) rfl (Nat.le_of_ble_eq_true rfl) ?_
  intro p e s m args below meth c A C hr hk
  refine cv_aload_n (i := 0) (q := 1) 0 C dX6_say_0 rfl rfl rfl ?_
  refine cv_ldc2 (v := 31) (q := 4) C dX6_say_1 (List.mem_of_getElem? (i := 1) rfl) rfl ?_
  refine cv_aload_n (i := 0) (q := 5) 0 C dX6_say_4 rfl rfl rfl ?_
  refine cv_get (q := 8) C iX6_say_X6 0 rfl rfl 49 (by decide) (List.mem_of_getElem? (i := 2) rfl) rfl rfl dX6_say_5 rfl ?_
  refine cv_lmul (q := 9) C dX6_say_8 rfl ?_
  refine cv_lload_n (i := 1) (q := 10) 1 C dX6_say_9 rfl rfl rfl ?_
  refine cv_ladd (q := 11) C dX6_say_10 rfl ?_
  obtain ⟨s1, es1, hm⟩ := cv_lt_s hm
  refine cv_put (q := 14) (ws' := (wX6 q cy s1)) C iX6_say_X6 tyX6 tyX6_ok nmX6 0 rfl rfl 49 (by decide) (List.mem_of_getElem? (i := 2) rfl) rfl rfl rfl rfl rfl (Nat.le_of_ble_eq_true rfl) dX6_say_11 rfl (by rw [es1]; rfl) ?_
  obtain rfl := Option.some.inj hm
  exact cv_vret C hr hk dX6_say_14
def fX6_sayShelf_L2  : Nat → Int32 → SX6 → Option (SX6)
  | 0, _, _ => none
  | n + 1, y1, S =>
    if (7 : Int32) ≤ y1 then
      (
      some S
      )
    else
      (
      cv_bd (fX6_ledgerOf S y1) fun r2 =>
      cv_bd (fX6_say S ((r2).toInt64)) fun r3 =>
      cv_lt (y1 + (1 : Int32)) fun x4 =>
      fX6_sayShelf_L2 n x4 r3
      )
def fX6_sayShelf (S : SX6) : Option (SX6) :=
  cv_bd (fX6_sayShelf_L2 256 (0 : Int32) S) fun j5 =>
  cv_gd (0 ≤ ((0 : Int32)).toInt ∧ ((0 : Int32)).toInt < 2) <|
  cv_bd (
    if ((gX6_many j5) ((0 : Int32)).toNatClampNeg) = (40 : Int32) then
      (
      some ((-1 : Int64), j5)
      )
    else
      (
      cv_bd (fX6_wouldOf j5 (50 : Int32)) fun r18 =>
      some ((r18.1).toInt64, r18.2)
      )
  ) fun j8 =>
  cv_bd (fX6_say j8.2 j8.1) fun r10 =>
  cv_bd (fX6_aheadOf r10) fun r11 =>
  cv_bd (fX6_say r11.2 ((r11.1).toInt64)) fun r12 =>
  cv_bd (fX6_replayOf r12 (2 : Int32) (3 : Int32) (0 : Int32)) fun r13 =>
  cv_bd (fX6_say r13.2 ((r13.1).toInt64)) fun r14 =>
  cv_bd (fX6_replayOf r14 (2 : Int32) (3 : Int32) (1 : Int32)) fun r15 =>
  cv_bd (fX6_say r15.2 ((r15.1).toInt64)) fun r16 =>
  some r16
abbrev rX6_sayShelf : Room := { frames := 6, cells := 0, slots := 0, locals := 139 }
theorem iX6_sayShelf_X6 : ∀ w ∈ u_ws RX6 TX6 50, w ∈ wsX6_sayShelf := fun w h => List.mem_cons_of_mem _ (List.mem_append_right _ h)
set_option maxHeartbeats 4000000 in
set_option maxRecDepth 100000 in
theorem vX6_sayShelf_L2 {p : Program} {l : Launch} {e : Env} {s : State} {m : MethodId} {args : Array Value} {below : List Frame} {meth : Method} {c : Code} {σ : Nat → Nat} {D : va_G} {A : Nat → Prop} {cy : ClassId} (q : Nat → Nat) (C : cv_C p s m args c cX6_sayShelf 2 RX6 wsX6_sayShelf σ D [(cy, .int)] A) {Q : State → Prop} {j : SX6} : ∀ (n : Nat) (y1 : Int32) (S : SX6), fX6_sayShelf_L2 n y1 S = some j → cv_V p l e rX6_sayShelf s m args below meth c 2 D A Q 0 0 (wX6 q cy j) 24 [(0, .ref (q 0))] [] → cv_V p l e rX6_sayShelf s m args below meth c 2 D A Q 0 0 (wX6 q cy S) 2 [(0, .ref (q 0)), (1, .int y1)] [] := by
  intro n
  induction n with
  | zero => intro y1 S hm kx; cases hm
  | succ n ih =>
    intro y1 S hm kx
    have hm : fX6_sayShelf_L2 (n + 1) y1 S = some j := hm
    unfold fX6_sayShelf_L2 at hm
    refine cv_iload_n (i := 1) (q := 3) 1 C dX6_sayShelf_2 rfl rfl rfl ?_
    refine cv_bipush (v := 7) (q := 5) C dX6_sayShelf_3 (by decide) rfl ?_
    refine cv_icmp_ge (tgt := 24) (q := 8) C dX6_sayShelf_5 (by decide) rfl (fun h1 => ?_) (fun h1 => ?_)
    · have hm := cv_if_t h1 hm
      obtain rfl := Option.some.inj hm
      refine cv_sub [0] rfl ?_
      exact kx
    · have hm := cv_if_f h1 hm
      refine cv_aload_n (i := 0) (q := 9) 0 C dX6_sayShelf_8 rfl rfl rfl ?_
      refine cv_aload_n (i := 0) (q := 10) 0 C dX6_sayShelf_9 rfl rfl rfl ?_
      refine cv_iload_n (i := 1) (q := 11) 1 C dX6_sayShelf_10 rfl rfl rfl ?_
      obtain ⟨r2, hr2, hm⟩ := cv_bd_s hm
      refine cv_goW (q := 14) C (KX6_ledgerOf (l := l) (σ := σ) (D := D) (cy := cy)  q  S y1 hr2) (cv_rv (As := [.int y1]) (st := [.ref (q 0)]) (n := 1) (q0 := 0) (ci := 6) C (KX6_ledgerOf (l := l) (σ := σ) (D := D) (cy := cy)  q  S y1 hr2) rfl rfl gX6_sayShelf_X6_ledgerOf rfl ⟨rfl, rfl⟩ (by decide +kernel) rfl ⟨Nat.le_of_ble_eq_true rfl, Nat.le_of_ble_eq_true rfl⟩ rfl (Nat.le_of_ble_eq_true rfl) dX6_sayShelf_11 ⟨Nat.zero_le _, Nat.zero_le _⟩) rfl ?_
      refine cv_i2l (q := 15) C dX6_sayShelf_14 rfl ?_
      obtain ⟨r3, hr3, hm⟩ := cv_bd_s hm
      refine cv_goW (q := 18) C (KX6_say (l := l) (σ := σ) (D := D) (cy := cy)  q  S ((r2).toInt64) hr3) (cv_rv (As := [.long (r2).toInt64]) (st := []) (n := 1) (q0 := 0) (ci := 6) C (KX6_say (l := l) (σ := σ) (D := D) (cy := cy)  q  S ((r2).toInt64) hr3) rfl rfl gX6_sayShelf_X6_say rfl ⟨rfl, rfl⟩ (by decide +kernel) rfl ⟨Nat.le_of_ble_eq_true rfl, Nat.le_of_ble_eq_true rfl⟩ rfl (Nat.le_of_ble_eq_true rfl) dX6_sayShelf_15 ⟨Nat.zero_le _, Nat.zero_le _⟩) rfl ?_
      obtain ⟨x4, ex4, hm⟩ := cv_lt_s hm
      refine cv_iinc (v := x4) (lv' := [(1, .int x4), (0, .ref (q 0))]) (q := 21) 1 C dX6_sayShelf_18 rfl (by rw [ex4]; rfl) (by decide) rfl rfl ?_
      refine cv_goto (tgt := 2) C dX6_sayShelf_21 (by decide) ?_
      refine cv_sub [1, 0] rfl ?_
      exact ih x4 r3 hm kx
set_option maxHeartbeats 4000000 in
set_option maxRecDepth 100000 in
theorem KX6_sayShelf {l : Launch} {σ : Nat → Nat} {D : va_G} {cy : ClassId} (q : Nat → Nat) (S : SX6) {res : SX6} (hm : fX6_sayShelf S = some res) : cv_M l yX6_sayShelf wsX6_sayShelf rX6_sayShelf σ D [(cy, .int)] [.ref (q 0)] (wX6 q cy S) none (wX6 q cy res) := by
  unfold fX6_sayShelf at hm
  refine cv_M.of (own := RX6) (by decide +kernel) rfl rfl (lv := [(0, .ref (q 0))]) rfl (Nat.le_of_ble_eq_true rfl) ?_
  intro p e s m args below meth c A C hr hk
  refine cv_iconst (v := 0) (q := 1) C dX6_sayShelf_0 (by decide) rfl ?_
  refine cv_istore_n (i := 1) (lv' := [(1, .int (0 : Int32)), (0, .ref (q 0))]) (q := 2) C dX6_sayShelf_1 rfl (by decide) rfl rfl ?_
  obtain ⟨j5, hj5, hm⟩ := cv_bd_s hm
  refine cv_cut (ws' := (wX6 q cy j5)) (pc' := 24) (lv' := [(0, .ref (q 0))]) (st' := []) ?_ (fun K6 => ?_)
  · refine cv_aload_n (i := 0) (q := 25) 0 C dX6_sayShelf_24 rfl rfl rfl ?_
    refine cv_aload_n (i := 0) (q := 26) 0 C dX6_sayShelf_25 rfl rfl rfl ?_
    refine cv_get (q := 29) C iX6_sayShelf_X6 0 rfl rfl 7 (by decide) (List.mem_of_getElem? (i := 1) rfl) rfl rfl dX6_sayShelf_26 rfl ?_
    refine cv_iconst (v := 0) (q := 30) C dX6_sayShelf_29 (by decide) rfl ?_
    obtain ⟨g7, hm⟩ := cv_gd_s hm
    refine cv_iald (q := 31) C 7 0 rfl rfl (vp_in_iff.mpr g7) dX6_sayShelf_30 rfl ?_
    refine cv_bipush (v := 40) (q := 33) C dX6_sayShelf_31 (by decide) rfl ?_
    obtain ⟨j8, hj8, hm⟩ := cv_bd_s hm
    refine cv_cut (ws' := (wX6 q cy j8.2)) (pc' := 49) (lv' := [(0, .ref (q 0))]) (st' := [.long j8.1, .ref (q 0)]) ?_ (fun K9 => ?_)
    · obtain ⟨r10, hr10, hm⟩ := cv_bd_s hm
      refine cv_goW (q := 52) C (KX6_say (l := l) (σ := σ) (D := D) (cy := cy)  q  j8.2 j8.1 hr10) (cv_rv (As := [.long j8.1]) (st := []) (n := 1) (q0 := 0) (ci := 6) C (KX6_say (l := l) (σ := σ) (D := D) (cy := cy)  q  j8.2 j8.1 hr10) rfl rfl gX6_sayShelf_X6_say rfl ⟨rfl, rfl⟩ (by decide +kernel) rfl ⟨Nat.le_of_ble_eq_true rfl, Nat.le_of_ble_eq_true rfl⟩ rfl (Nat.le_of_ble_eq_true rfl) dX6_sayShelf_49 ⟨Nat.zero_le _, Nat.zero_le _⟩) rfl ?_
      refine cv_aload_n (i := 0) (q := 53) 0 C dX6_sayShelf_52 rfl rfl rfl ?_
      refine cv_aload_n (i := 0) (q := 54) 0 C dX6_sayShelf_53 rfl rfl rfl ?_
      obtain ⟨r11, hr11, hm⟩ := cv_bd_s hm
      refine cv_goW (q := 57) C (KX6_aheadOf (l := l) (σ := σ) (D := D) (cy := cy)  q  r10  hr11) (cv_rv (As := []) (st := [.ref (q 0)]) (n := 0) (q0 := 0) (ci := 6) C (KX6_aheadOf (l := l) (σ := σ) (D := D) (cy := cy)  q  r10  hr11) rfl rfl gX6_sayShelf_X6_aheadOf rfl ⟨rfl, rfl⟩ (by decide +kernel) rfl ⟨Nat.le_of_ble_eq_true rfl, Nat.le_of_ble_eq_true rfl⟩ rfl (Nat.le_of_ble_eq_true rfl) dX6_sayShelf_54 ⟨Nat.zero_le _, Nat.zero_le _⟩) rfl ?_
      refine cv_i2l (q := 58) C dX6_sayShelf_57 rfl ?_
      obtain ⟨r12, hr12, hm⟩ := cv_bd_s hm
      refine cv_goW (q := 61) C (KX6_say (l := l) (σ := σ) (D := D) (cy := cy)  q  r11.2 ((r11.1).toInt64) hr12) (cv_rv (As := [.long (r11.1).toInt64]) (st := []) (n := 1) (q0 := 0) (ci := 6) C (KX6_say (l := l) (σ := σ) (D := D) (cy := cy)  q  r11.2 ((r11.1).toInt64) hr12) rfl rfl gX6_sayShelf_X6_say rfl ⟨rfl, rfl⟩ (by decide +kernel) rfl ⟨Nat.le_of_ble_eq_true rfl, Nat.le_of_ble_eq_true rfl⟩ rfl (Nat.le_of_ble_eq_true rfl) dX6_sayShelf_58 ⟨Nat.zero_le _, Nat.zero_le _⟩) rfl ?_
      refine cv_aload_n (i := 0) (q := 62) 0 C dX6_sayShelf_61 rfl rfl rfl ?_
      refine cv_aload_n (i := 0) (q := 63) 0 C dX6_sayShelf_62 rfl rfl rfl ?_
      refine cv_iconst (v := 2) (q := 64) C dX6_sayShelf_63 (by decide) rfl ?_
      refine cv_iconst (v := 3) (q := 65) C dX6_sayShelf_64 (by decide) rfl ?_
      refine cv_iconst (v := 0) (q := 66) C dX6_sayShelf_65 (by decide) rfl ?_
      obtain ⟨r13, hr13, hm⟩ := cv_bd_s hm
      refine cv_goW (q := 69) C (KX6_replayOf (l := l) (σ := σ) (D := D) (cy := cy)  q  r12 (2 : Int32) (3 : Int32) (0 : Int32) hr13) (cv_rv (As := [.int (2 : Int32), .int (3 : Int32), .int (0 : Int32)]) (st := [.ref (q 0)]) (n := 3) (q0 := 0) (ci := 6) C (KX6_replayOf (l := l) (σ := σ) (D := D) (cy := cy)  q  r12 (2 : Int32) (3 : Int32) (0 : Int32) hr13) rfl rfl gX6_sayShelf_X6_replayOf rfl ⟨rfl, rfl⟩ (by decide +kernel) rfl ⟨Nat.le_of_ble_eq_true rfl, Nat.le_of_ble_eq_true rfl⟩ rfl (Nat.le_of_ble_eq_true rfl) dX6_sayShelf_66 ⟨Nat.zero_le _, Nat.zero_le _⟩) rfl ?_
      refine cv_i2l (q := 70) C dX6_sayShelf_69 rfl ?_
      obtain ⟨r14, hr14, hm⟩ := cv_bd_s hm
      refine cv_goW (q := 73) C (KX6_say (l := l) (σ := σ) (D := D) (cy := cy)  q  r13.2 ((r13.1).toInt64) hr14) (cv_rv (As := [.long (r13.1).toInt64]) (st := []) (n := 1) (q0 := 0) (ci := 6) C (KX6_say (l := l) (σ := σ) (D := D) (cy := cy)  q  r13.2 ((r13.1).toInt64) hr14) rfl rfl gX6_sayShelf_X6_say rfl ⟨rfl, rfl⟩ (by decide +kernel) rfl ⟨Nat.le_of_ble_eq_true rfl, Nat.le_of_ble_eq_true rfl⟩ rfl (Nat.le_of_ble_eq_true rfl) dX6_sayShelf_70 ⟨Nat.zero_le _, Nat.zero_le _⟩) rfl ?_
      refine cv_aload_n (i := 0) (q := 74) 0 C dX6_sayShelf_73 rfl rfl rfl ?_
      refine cv_aload_n (i := 0) (q := 75) 0 C dX6_sayShelf_74 rfl rfl rfl ?_
      refine cv_iconst (v := 2) (q := 76) C dX6_sayShelf_75 (by decide) rfl ?_
      refine cv_iconst (v := 3) (q := 77) C dX6_sayShelf_76 (by decide) rfl ?_
      refine cv_iconst (v := 1) (q := 78) C dX6_sayShelf_77 (by decide) rfl ?_
      obtain ⟨r15, hr15, hm⟩ := cv_bd_s hm
      refine cv_goW (q := 81) C (KX6_replayOf (l := l) (σ := σ) (D := D) (cy := cy)  q  r14 (2 : Int32) (3 : Int32) (1 : Int32) hr15) (cv_rv (As := [.int (2 : Int32), .int (3 : Int32), .int (1 : Int32)]) (st := [.ref (q 0)]) (n := 3) (q0 := 0) (ci := 6) C (KX6_replayOf (l := l) (σ := σ) (D := D) (cy := cy)  q  r14 (2 : Int32) (3 : Int32) (1 : Int32) hr15) rfl rfl gX6_sayShelf_X6_replayOf rfl ⟨rfl, rfl⟩ (by decide +kernel) rfl ⟨Nat.le_of_ble_eq_true rfl, Nat.le_of_ble_eq_true rfl⟩ rfl (Nat.le_of_ble_eq_true rfl) dX6_sayShelf_78 ⟨Nat.zero_le _, Nat.zero_le _⟩) rfl ?_
      refine cv_i2l (q := 82) C dX6_sayShelf_81 rfl ?_
      obtain ⟨r16, hr16, hm⟩ := cv_bd_s hm
      refine cv_goW (q := 85) C (KX6_say (l := l) (σ := σ) (D := D) (cy := cy)  q  r15.2 ((r15.1).toInt64) hr16) (cv_rv (As := [.long (r15.1).toInt64]) (st := []) (n := 1) (q0 := 0) (ci := 6) C (KX6_say (l := l) (σ := σ) (D := D) (cy := cy)  q  r15.2 ((r15.1).toInt64) hr16) rfl rfl gX6_sayShelf_X6_say rfl ⟨rfl, rfl⟩ (by decide +kernel) rfl ⟨Nat.le_of_ble_eq_true rfl, Nat.le_of_ble_eq_true rfl⟩ rfl (Nat.le_of_ble_eq_true rfl) dX6_sayShelf_82 ⟨Nat.zero_le _, Nat.zero_le _⟩) rfl ?_
      obtain rfl := Option.some.inj hm
      exact cv_vret C hr hk dX6_sayShelf_85
    · have hm := hj8
      refine cv_icmp_ne (tgt := 42) (q := 36) C dX6_sayShelf_33 (by decide) rfl (fun h17 => ?_) (fun h17 => ?_)
      · have hm := cv_if_f h17 hm
        refine cv_aload_n (i := 0) (q := 43) 0 C dX6_sayShelf_42 rfl rfl rfl ?_
        refine cv_bipush (v := 50) (q := 45) C dX6_sayShelf_43 (by decide) rfl ?_
        obtain ⟨r18, hr18, hm⟩ := cv_bd_s hm
        refine cv_goW (q := 48) C (KX6_wouldOf (l := l) (σ := σ) (D := D) (cy := cy)  q  j5 (50 : Int32) hr18) (cv_rv (As := [.int (50 : Int32)]) (st := [.ref (q 0)]) (n := 1) (q0 := 0) (ci := 6) C (KX6_wouldOf (l := l) (σ := σ) (D := D) (cy := cy)  q  j5 (50 : Int32) hr18) rfl rfl gX6_sayShelf_X6_wouldOf rfl ⟨rfl, rfl⟩ (by decide +kernel) rfl ⟨Nat.le_of_ble_eq_true rfl, Nat.le_of_ble_eq_true rfl⟩ rfl (Nat.le_of_ble_eq_true rfl) dX6_sayShelf_45 ⟨Nat.zero_le _, Nat.zero_le _⟩) rfl ?_
        refine cv_i2l (q := 49) C dX6_sayShelf_48 rfl ?_
        obtain rfl := Option.some.inj hm
        exact K9
      · have hm := cv_if_t h17 hm
        refine cv_ldc2 (v := -1) (q := 39) C dX6_sayShelf_36 (List.mem_of_getElem? (i := 2) rfl) rfl ?_
        refine cv_goto (tgt := 49) C dX6_sayShelf_39 (by decide) ?_
        obtain rfl := Option.some.inj hm
        exact K9
  · refine cv_sub [1, 0] rfl ?_
    exact vX6_sayShelf_L2 q  C 256 (0 : Int32) S hj5 K6
def fX6_digest_L33 (u1 : Int32) : Nat → Int32 → SX6 → Option (SX6)
  | 0, _, _ => none
  | n + 1, y2, S =>
    if (7 : Int32) ≤ y2 then
      (
      some S
      )
    else
      (
      cv_bd (fX6_tellEntry S u1 y2) fun r7 =>
      cv_bd (fX6_say S ((r7).toInt64)) fun r8 =>
      cv_lt (y2 + (1 : Int32)) fun x9 =>
      fX6_digest_L33 u1 n x9 r8
      )
def fX6_digest_L9  : Nat → Int32 → SX6 → Option (SX6)
  | 0, _, _ => none
  | n + 1, y1, S =>
    if (100 : Int32) ≤ y1 then
      (
      some S
      )
    else
      (
      cv_gd (0 ≤ (y1).toInt ∧ (y1).toInt < 200) <|
      cv_bd (
        if ((gX6_there S) (y1).toNatClampNeg) = (1 : Int32) then
          (
          cv_bd (fX6_say S ((y1).toInt64)) fun r8 =>
          cv_bd (fX6_digest_L33 y1 256 (0 : Int32) r8) fun j9 =>
          some j9
          )
        else
          (
          some S
          )
      ) fun j4 =>
      cv_lt (y1 + (1 : Int32)) fun x6 =>
      fX6_digest_L9 n x6 j4
      )
def fX6_digest_L97  : Nat → Int32 → SX6 → Option (SX6)
  | 0, _, _ => none
  | n + 1, y1, S =>
    if (gX6_pageMany S) ≤ y1 then
      (
      some S
      )
    else
      (
      cv_gd (0 ≤ (y1).toInt ∧ (y1).toInt < 54) <|
      cv_bd (fX6_say S ((((gX6_page S) (y1).toNatClampNeg)).toInt64)) fun r22 =>
      cv_lt (y1 + (1 : Int32)) fun x23 =>
      fX6_digest_L97 n x23 r22
      )
def fX6_digest_L124  : Nat → Int32 → SX6 → Option (SX6)
  | 0, _, _ => none
  | n + 1, y1, S =>
    if (8 : Int32) ≤ y1 then
      (
      some S
      )
    else
      (
      cv_bd (fX6_countOf S y1) fun r27 =>
      cv_bd (fX6_say S ((r27).toInt64)) fun r28 =>
      cv_lt (y1 + (1 : Int32)) fun x29 =>
      fX6_digest_L124 n x29 r28
      )
def fX6_digest (S : SX6) : Option (Int64 × SX6) :=
  cv_lt (sX6_hash S (1373 : Int64)) fun s1 =>
  cv_bd (fX6_digest_L9 256 (0 : Int32) s1) fun j11 =>
  cv_bd (fX6_lacks j11) fun r13 =>
  cv_bd (
    if r13 = 0 then
      (
      cv_bd (fX6_sayShelf j11) fun r33 =>
      some r33
      )
    else
      (
      some j11
      )
  ) fun j14 =>
  cv_bd (fX6_sortsOf j14 (7 : Int32)) fun r16 =>
  cv_bd (fX6_say j14 ((r16).toInt64)) fun r17 =>
  cv_bd (fX6_askOf r17 (7 : Int32)) fun r18 =>
  cv_bd (fX6_say r17 ((r18).toInt64)) fun r19 =>
  cv_bd (fX6_digest_L97 256 (0 : Int32) r19) fun j24 =>
  cv_bd (fX6_digest_L124 256 (0 : Int32) j24) fun j30 =>
  some ((gX6_hash j30), j30)
abbrev rX6_digest : Room := { frames := 7, cells := 0, slots := 0, locals := 160 }
theorem iX6_digest_X6 : ∀ w ∈ u_ws RX6 TX6 50, w ∈ wsX6_digest := fun w h => List.mem_cons_of_mem _ (List.mem_append_right _ h)
set_option maxHeartbeats 4000000 in
set_option maxRecDepth 100000 in
theorem vX6_digest_L33 {p : Program} {l : Launch} {e : Env} {s : State} {m : MethodId} {args : Array Value} {below : List Frame} {meth : Method} {c : Code} {σ : Nat → Nat} {D : va_G} {A : Nat → Prop} {cy : ClassId} (q : Nat → Nat) (u1 : Int32) (C : cv_C p s m args c cX6_digest 3 RX6 wsX6_digest σ D [(cy, .int)] A) {Q : State → Prop} {j : SX6} : ∀ (n : Nat) (y2 : Int32) (S : SX6), fX6_digest_L33 u1 n y2 S = some j → cv_V p l e rX6_digest s m args below meth c 3 D A Q 0 0 (wX6 q cy j) 56 [(0, .ref (q 0)), (1, .int u1)] [] → cv_V p l e rX6_digest s m args below meth c 3 D A Q 0 0 (wX6 q cy S) 33 [(0, .ref (q 0)), (1, .int u1), (2, .int y2)] [] := by
  intro n
  induction n with
  | zero => intro y2 S hm kx; cases hm
  | succ n ih =>
    intro y2 S hm kx
    have hm : fX6_digest_L33 u1 (n + 1) y2 S = some j := hm
    unfold fX6_digest_L33 at hm
    refine cv_iload_n (i := 2) (q := 34) 2 C dX6_digest_33 rfl rfl rfl ?_
    refine cv_bipush (v := 7) (q := 36) C dX6_digest_34 (by decide) rfl ?_
    refine cv_icmp_ge (tgt := 56) (q := 39) C dX6_digest_36 (by decide) rfl (fun h6 => ?_) (fun h6 => ?_)
    · have hm := cv_if_t h6 hm
      obtain rfl := Option.some.inj hm
      refine cv_sub [0, 1] rfl ?_
      exact kx
    · have hm := cv_if_f h6 hm
      refine cv_aload_n (i := 0) (q := 40) 0 C dX6_digest_39 rfl rfl rfl ?_
      refine cv_aload_n (i := 0) (q := 41) 0 C dX6_digest_40 rfl rfl rfl ?_
      refine cv_iload_n (i := 1) (q := 42) 1 C dX6_digest_41 rfl rfl rfl ?_
      refine cv_iload_n (i := 2) (q := 43) 2 C dX6_digest_42 rfl rfl rfl ?_
      obtain ⟨r7, hr7, hm⟩ := cv_bd_s hm
      refine cv_goW (q := 46) C (KX6_tellEntry (l := l) (σ := σ) (D := D) (cy := cy)  q  S u1 y2 hr7) (cv_rv (As := [.int u1, .int y2]) (st := [.ref (q 0)]) (n := 2) (q0 := 0) (ci := 6) C (KX6_tellEntry (l := l) (σ := σ) (D := D) (cy := cy)  q  S u1 y2 hr7) rfl rfl gX6_digest_X6_tellEntry rfl ⟨rfl, rfl⟩ (by decide +kernel) rfl ⟨Nat.le_of_ble_eq_true rfl, Nat.le_of_ble_eq_true rfl⟩ rfl (Nat.le_of_ble_eq_true rfl) dX6_digest_43 ⟨Nat.zero_le _, Nat.zero_le _⟩) rfl ?_
      refine cv_i2l (q := 47) C dX6_digest_46 rfl ?_
      obtain ⟨r8, hr8, hm⟩ := cv_bd_s hm
      refine cv_goW (q := 50) C (KX6_say (l := l) (σ := σ) (D := D) (cy := cy)  q  S ((r7).toInt64) hr8) (cv_rv (As := [.long (r7).toInt64]) (st := []) (n := 1) (q0 := 0) (ci := 6) C (KX6_say (l := l) (σ := σ) (D := D) (cy := cy)  q  S ((r7).toInt64) hr8) rfl rfl gX6_digest_X6_say rfl ⟨rfl, rfl⟩ (by decide +kernel) rfl ⟨Nat.le_of_ble_eq_true rfl, Nat.le_of_ble_eq_true rfl⟩ rfl (Nat.le_of_ble_eq_true rfl) dX6_digest_47 ⟨Nat.zero_le _, Nat.zero_le _⟩) rfl ?_
      obtain ⟨x9, ex9, hm⟩ := cv_lt_s hm
      refine cv_iinc (v := x9) (lv' := [(2, .int x9), (0, .ref (q 0)), (1, .int u1)]) (q := 53) 2 C dX6_digest_50 rfl (by rw [ex9]; rfl) (by decide) rfl rfl ?_
      refine cv_goto (tgt := 33) C dX6_digest_53 (by decide) ?_
      refine cv_sub [1, 2, 0] rfl ?_
      exact ih x9 r8 hm kx
set_option maxHeartbeats 4000000 in
set_option maxRecDepth 100000 in
theorem vX6_digest_L9 {p : Program} {l : Launch} {e : Env} {s : State} {m : MethodId} {args : Array Value} {below : List Frame} {meth : Method} {c : Code} {σ : Nat → Nat} {D : va_G} {A : Nat → Prop} {cy : ClassId} (q : Nat → Nat) (C : cv_C p s m args c cX6_digest 3 RX6 wsX6_digest σ D [(cy, .int)] A) {Q : State → Prop} {j : SX6} : ∀ (n : Nat) (y1 : Int32) (S : SX6), fX6_digest_L9 n y1 S = some j → cv_V p l e rX6_digest s m args below meth c 3 D A Q 0 0 (wX6 q cy j) 62 [(0, .ref (q 0))] [] → cv_V p l e rX6_digest s m args below meth c 3 D A Q 0 0 (wX6 q cy S) 9 [(0, .ref (q 0)), (1, .int y1)] [] := by
  intro n
  induction n with
  | zero => intro y1 S hm kx; cases hm
  | succ n ih =>
    intro y1 S hm kx
    have hm : fX6_digest_L9 (n + 1) y1 S = some j := hm
    unfold fX6_digest_L9 at hm
    refine cv_iload_n (i := 1) (q := 10) 1 C dX6_digest_9 rfl rfl rfl ?_
    refine cv_bipush (v := 100) (q := 12) C dX6_digest_10 (by decide) rfl ?_
    refine cv_icmp_ge (tgt := 62) (q := 15) C dX6_digest_12 (by decide) rfl (fun h2 => ?_) (fun h2 => ?_)
    · have hm := cv_if_t h2 hm
      obtain rfl := Option.some.inj hm
      refine cv_sub [0] rfl ?_
      exact kx
    · have hm := cv_if_f h2 hm
      refine cv_aload_n (i := 0) (q := 16) 0 C dX6_digest_15 rfl rfl rfl ?_
      refine cv_get (q := 19) C iX6_digest_X6 0 rfl rfl 5 (by decide) (List.mem_of_getElem? (i := 3) rfl) rfl rfl dX6_digest_16 rfl ?_
      refine cv_iload_n (i := 1) (q := 20) 1 C dX6_digest_19 rfl rfl rfl ?_
      obtain ⟨g3, hm⟩ := cv_gd_s hm
      refine cv_iald (q := 21) C 5 0 rfl rfl (vp_in_iff.mpr g3) dX6_digest_20 rfl ?_
      refine cv_iconst (v := 1) (q := 22) C dX6_digest_21 (by decide) rfl ?_
      obtain ⟨j4, hj4, hm⟩ := cv_bd_s hm
      refine cv_cut (ws' := (wX6 q cy j4)) (pc' := 56) (lv' := [(0, .ref (q 0)), (1, .int y1)]) (st' := []) ?_ (fun K5 => ?_)
      · obtain ⟨x6, ex6, hm⟩ := cv_lt_s hm
        refine cv_iinc (v := x6) (lv' := [(1, .int x6), (0, .ref (q 0))]) (q := 59) 1 C dX6_digest_56 rfl (by rw [ex6]; rfl) (by decide) rfl rfl ?_
        refine cv_goto (tgt := 9) C dX6_digest_59 (by decide) ?_
        refine cv_sub [1, 0] rfl ?_
        exact ih x6 j4 hm kx
      · have hm := hj4
        refine cv_icmp_ne (tgt := 56) (q := 25) C dX6_digest_22 (by decide) rfl (fun h7 => ?_) (fun h7 => ?_)
        · have hm := cv_if_f h7 hm
          obtain rfl := Option.some.inj hm
          exact K5
        · have hm := cv_if_t h7 hm
          refine cv_aload_n (i := 0) (q := 26) 0 C dX6_digest_25 rfl rfl rfl ?_
          refine cv_iload_n (i := 1) (q := 27) 1 C dX6_digest_26 rfl rfl rfl ?_
          refine cv_i2l (q := 28) C dX6_digest_27 rfl ?_
          obtain ⟨r8, hr8, hm⟩ := cv_bd_s hm
          refine cv_goW (q := 31) C (KX6_say (l := l) (σ := σ) (D := D) (cy := cy)  q  S ((y1).toInt64) hr8) (cv_rv (As := [.long (y1).toInt64]) (st := []) (n := 1) (q0 := 0) (ci := 6) C (KX6_say (l := l) (σ := σ) (D := D) (cy := cy)  q  S ((y1).toInt64) hr8) rfl rfl gX6_digest_X6_say rfl ⟨rfl, rfl⟩ (by decide +kernel) rfl ⟨Nat.le_of_ble_eq_true rfl, Nat.le_of_ble_eq_true rfl⟩ rfl (Nat.le_of_ble_eq_true rfl) dX6_digest_28 ⟨Nat.zero_le _, Nat.zero_le _⟩) rfl ?_
          refine cv_iconst (v := 0) (q := 32) C dX6_digest_31 (by decide) rfl ?_
          refine cv_istore_n (i := 2) (lv' := [(2, .int (0 : Int32)), (0, .ref (q 0)), (1, .int y1)]) (q := 33) C dX6_digest_32 rfl (by decide) rfl rfl ?_
          obtain ⟨j9, hj9, hm⟩ := cv_bd_s hm
          refine cv_cut (ws' := (wX6 q cy j9)) (pc' := 56) (lv' := [(0, .ref (q 0)), (1, .int y1)]) (st' := []) ?_ (fun K10 => ?_)
          · obtain rfl := Option.some.inj hm
            exact K5
          · refine cv_sub [1, 2, 0] rfl ?_
            exact vX6_digest_L33 q y1 C 256 (0 : Int32) r8 hj9 K10
set_option maxHeartbeats 4000000 in
set_option maxRecDepth 100000 in
theorem vX6_digest_L97 {p : Program} {l : Launch} {e : Env} {s : State} {m : MethodId} {args : Array Value} {below : List Frame} {meth : Method} {c : Code} {σ : Nat → Nat} {D : va_G} {A : Nat → Prop} {cy : ClassId} (q : Nat → Nat) (C : cv_C p s m args c cX6_digest 3 RX6 wsX6_digest σ D [(cy, .int)] A) {Q : State → Prop} {j : SX6} : ∀ (n : Nat) (y1 : Int32) (S : SX6), fX6_digest_L97 n y1 S = some j → cv_V p l e rX6_digest s m args below meth c 3 D A Q 0 0 (wX6 q cy j) 122 [(0, .ref (q 0))] [] → cv_V p l e rX6_digest s m args below meth c 3 D A Q 0 0 (wX6 q cy S) 97 [(0, .ref (q 0)), (1, .int y1)] [] := by
  intro n
  induction n with
  | zero => intro y1 S hm kx; cases hm
  | succ n ih =>
    intro y1 S hm kx
    have hm : fX6_digest_L97 (n + 1) y1 S = some j := hm
    unfold fX6_digest_L97 at hm
    refine cv_iload_n (i := 1) (q := 98) 1 C dX6_digest_97 rfl rfl rfl ?_
    refine cv_aload_n (i := 0) (q := 99) 0 C dX6_digest_98 rfl rfl rfl ?_
    refine cv_get (q := 102) C iX6_digest_X6 0 rfl rfl 1 (by decide) (List.mem_of_getElem? (i := 4) rfl) rfl rfl dX6_digest_99 rfl ?_
    refine cv_icmp_ge (tgt := 122) (q := 105) C dX6_digest_102 (by decide) rfl (fun h20 => ?_) (fun h20 => ?_)
    · have hm := cv_if_t h20 hm
      obtain rfl := Option.some.inj hm
      refine cv_sub [0] rfl ?_
      exact kx
    · have hm := cv_if_f h20 hm
      refine cv_aload_n (i := 0) (q := 106) 0 C dX6_digest_105 rfl rfl rfl ?_
      refine cv_aload_n (i := 0) (q := 107) 0 C dX6_digest_106 rfl rfl rfl ?_
      refine cv_get (q := 110) C iX6_digest_X6 0 rfl rfl 0 (by decide) (List.mem_of_getElem? (i := 5) rfl) rfl rfl dX6_digest_107 rfl ?_
      refine cv_iload_n (i := 1) (q := 111) 1 C dX6_digest_110 rfl rfl rfl ?_
      obtain ⟨g21, hm⟩ := cv_gd_s hm
      refine cv_iald (q := 112) C 1 0 rfl rfl (vp_in_iff.mpr g21) dX6_digest_111 rfl ?_
      refine cv_i2l (q := 113) C dX6_digest_112 rfl ?_
      obtain ⟨r22, hr22, hm⟩ := cv_bd_s hm
      refine cv_goW (q := 116) C (KX6_say (l := l) (σ := σ) (D := D) (cy := cy)  q  S ((((gX6_page S) (y1).toNatClampNeg)).toInt64) hr22) (cv_rv (As := [.long (((gX6_page S) (y1).toNatClampNeg)).toInt64]) (st := []) (n := 1) (q0 := 0) (ci := 6) C (KX6_say (l := l) (σ := σ) (D := D) (cy := cy)  q  S ((((gX6_page S) (y1).toNatClampNeg)).toInt64) hr22) rfl rfl gX6_digest_X6_say rfl ⟨rfl, rfl⟩ (by decide +kernel) rfl ⟨Nat.le_of_ble_eq_true rfl, Nat.le_of_ble_eq_true rfl⟩ rfl (Nat.le_of_ble_eq_true rfl) dX6_digest_113 ⟨Nat.zero_le _, Nat.zero_le _⟩) rfl ?_
      obtain ⟨x23, ex23, hm⟩ := cv_lt_s hm
      refine cv_iinc (v := x23) (lv' := [(1, .int x23), (0, .ref (q 0))]) (q := 119) 1 C dX6_digest_116 rfl (by rw [ex23]; rfl) (by decide) rfl rfl ?_
      refine cv_goto (tgt := 97) C dX6_digest_119 (by decide) ?_
      refine cv_sub [1, 0] rfl ?_
      exact ih x23 r22 hm kx
set_option maxHeartbeats 4000000 in
set_option maxRecDepth 100000 in
theorem vX6_digest_L124 {p : Program} {l : Launch} {e : Env} {s : State} {m : MethodId} {args : Array Value} {below : List Frame} {meth : Method} {c : Code} {σ : Nat → Nat} {D : va_G} {A : Nat → Prop} {cy : ClassId} (q : Nat → Nat) (C : cv_C p s m args c cX6_digest 3 RX6 wsX6_digest σ D [(cy, .int)] A) {Q : State → Prop} {j : SX6} : ∀ (n : Nat) (y1 : Int32) (S : SX6), fX6_digest_L124 n y1 S = some j → cv_V p l e rX6_digest s m args below meth c 3 D A Q 0 0 (wX6 q cy j) 146 [(0, .ref (q 0))] [] → cv_V p l e rX6_digest s m args below meth c 3 D A Q 0 0 (wX6 q cy S) 124 [(0, .ref (q 0)), (1, .int y1)] [] := by
  intro n
  induction n with
  | zero => intro y1 S hm kx; cases hm
  | succ n ih =>
    intro y1 S hm kx
    have hm : fX6_digest_L124 (n + 1) y1 S = some j := hm
    unfold fX6_digest_L124 at hm
    refine cv_iload_n (i := 1) (q := 125) 1 C dX6_digest_124 rfl rfl rfl ?_
    refine cv_bipush (v := 8) (q := 127) C dX6_digest_125 (by decide) rfl ?_
    refine cv_icmp_ge (tgt := 146) (q := 130) C dX6_digest_127 (by decide) rfl (fun h26 => ?_) (fun h26 => ?_)
    · have hm := cv_if_t h26 hm
      obtain rfl := Option.some.inj hm
      refine cv_sub [0] rfl ?_
      exact kx
    · have hm := cv_if_f h26 hm
      refine cv_aload_n (i := 0) (q := 131) 0 C dX6_digest_130 rfl rfl rfl ?_
      refine cv_aload_n (i := 0) (q := 132) 0 C dX6_digest_131 rfl rfl rfl ?_
      refine cv_iload_n (i := 1) (q := 133) 1 C dX6_digest_132 rfl rfl rfl ?_
      obtain ⟨r27, hr27, hm⟩ := cv_bd_s hm
      refine cv_goW (q := 136) C (KX6_countOf (l := l) (σ := σ) (D := D) (cy := cy)  q  S y1 hr27) (cv_rv (As := [.int y1]) (st := [.ref (q 0)]) (n := 1) (q0 := 0) (ci := 6) C (KX6_countOf (l := l) (σ := σ) (D := D) (cy := cy)  q  S y1 hr27) rfl rfl gX6_digest_X6_countOf rfl ⟨rfl, rfl⟩ (by decide +kernel) rfl ⟨Nat.le_of_ble_eq_true rfl, Nat.le_of_ble_eq_true rfl⟩ rfl (Nat.le_of_ble_eq_true rfl) dX6_digest_133 ⟨Nat.zero_le _, Nat.zero_le _⟩) rfl ?_
      refine cv_i2l (q := 137) C dX6_digest_136 rfl ?_
      obtain ⟨r28, hr28, hm⟩ := cv_bd_s hm
      refine cv_goW (q := 140) C (KX6_say (l := l) (σ := σ) (D := D) (cy := cy)  q  S ((r27).toInt64) hr28) (cv_rv (As := [.long (r27).toInt64]) (st := []) (n := 1) (q0 := 0) (ci := 6) C (KX6_say (l := l) (σ := σ) (D := D) (cy := cy)  q  S ((r27).toInt64) hr28) rfl rfl gX6_digest_X6_say rfl ⟨rfl, rfl⟩ (by decide +kernel) rfl ⟨Nat.le_of_ble_eq_true rfl, Nat.le_of_ble_eq_true rfl⟩ rfl (Nat.le_of_ble_eq_true rfl) dX6_digest_137 ⟨Nat.zero_le _, Nat.zero_le _⟩) rfl ?_
      obtain ⟨x29, ex29, hm⟩ := cv_lt_s hm
      refine cv_iinc (v := x29) (lv' := [(1, .int x29), (0, .ref (q 0))]) (q := 143) 1 C dX6_digest_140 rfl (by rw [ex29]; rfl) (by decide) rfl rfl ?_
      refine cv_goto (tgt := 124) C dX6_digest_143 (by decide) ?_
      refine cv_sub [1, 0] rfl ?_
      exact ih x29 r28 hm kx
set_option maxHeartbeats 4000000 in
set_option maxRecDepth 100000 in
theorem KX6_digest {l : Launch} {σ : Nat → Nat} {D : va_G} {cy : ClassId} (q : Nat → Nat) (S : SX6) {res : Int64 × SX6} (hm : fX6_digest S = some res) : cv_M l yX6_digest wsX6_digest rX6_digest σ D [(cy, .int)] [.ref (q 0)] (wX6 q cy S) (some (.long res.1)) (wX6 q cy res.2) := by
  unfold fX6_digest at hm
  refine cv_M.of (own := RX6) (by decide +kernel) rfl rfl (lv := [(0, .ref (q 0))]) rfl (Nat.le_of_ble_eq_true rfl) ?_
  intro p e s m args below meth c A C hr hk
  refine cv_aload_n (i := 0) (q := 1) 0 C dX6_digest_0 rfl rfl rfl ?_
  refine cv_ldc2 (v := 1373) (q := 4) C dX6_digest_1 (List.mem_of_getElem? (i := 1) rfl) rfl ?_
  obtain ⟨s1, es1, hm⟩ := cv_lt_s hm
  refine cv_put (q := 7) (ws' := (wX6 q cy s1)) C iX6_digest_X6 tyX6 tyX6_ok nmX6 0 rfl rfl 49 (by decide) (List.mem_of_getElem? (i := 2) rfl) rfl rfl rfl rfl rfl (Nat.le_of_ble_eq_true rfl) dX6_digest_4 rfl (by rw [es1]; rfl) ?_
  refine cv_iconst (v := 0) (q := 8) C dX6_digest_7 (by decide) rfl ?_
  refine cv_istore_n (i := 1) (lv' := [(1, .int (0 : Int32)), (0, .ref (q 0))]) (q := 9) C dX6_digest_8 rfl (by decide) rfl rfl ?_
  obtain ⟨j11, hj11, hm⟩ := cv_bd_s hm
  refine cv_cut (ws' := (wX6 q cy j11)) (pc' := 62) (lv' := [(0, .ref (q 0))]) (st' := []) ?_ (fun K12 => ?_)
  · refine cv_aload_n (i := 0) (q := 63) 0 C dX6_digest_62 rfl rfl rfl ?_
    obtain ⟨r13, hr13, hm⟩ := cv_bd_s hm
    refine cv_goW (q := 66) C (KX6_lacks (l := l) (σ := σ) (D := D) (cy := cy)  q  j11  hr13) (cv_rv (As := []) (st := []) (n := 0) (q0 := 0) (ci := 6) C (KX6_lacks (l := l) (σ := σ) (D := D) (cy := cy)  q  j11  hr13) rfl rfl gX6_digest_X6_lacks rfl ⟨rfl, rfl⟩ (by decide +kernel) rfl ⟨Nat.le_of_ble_eq_true rfl, Nat.le_of_ble_eq_true rfl⟩ rfl (Nat.le_of_ble_eq_true rfl) dX6_digest_63 ⟨Nat.zero_le _, Nat.zero_le _⟩) rfl ?_
    obtain ⟨j14, hj14, hm⟩ := cv_bd_s hm
    refine cv_cut (ws' := (wX6 q cy j14)) (pc' := 73) (lv' := [(0, .ref (q 0))]) (st' := []) ?_ (fun K15 => ?_)
    · refine cv_aload_n (i := 0) (q := 74) 0 C dX6_digest_73 rfl rfl rfl ?_
      refine cv_aload_n (i := 0) (q := 75) 0 C dX6_digest_74 rfl rfl rfl ?_
      refine cv_bipush (v := 7) (q := 77) C dX6_digest_75 (by decide) rfl ?_
      obtain ⟨r16, hr16, hm⟩ := cv_bd_s hm
      refine cv_goW (q := 80) C (KX6_sortsOf (l := l) (σ := σ) (D := D) (cy := cy)  q  j14 (7 : Int32) hr16) (cv_rv (As := [.int (7 : Int32)]) (st := [.ref (q 0)]) (n := 1) (q0 := 0) (ci := 6) C (KX6_sortsOf (l := l) (σ := σ) (D := D) (cy := cy)  q  j14 (7 : Int32) hr16) rfl rfl gX6_digest_X6_sortsOf rfl ⟨rfl, rfl⟩ (by decide +kernel) rfl ⟨Nat.le_of_ble_eq_true rfl, Nat.le_of_ble_eq_true rfl⟩ rfl (Nat.le_of_ble_eq_true rfl) dX6_digest_77 ⟨Nat.zero_le _, Nat.zero_le _⟩) rfl ?_
      refine cv_i2l (q := 81) C dX6_digest_80 rfl ?_
      obtain ⟨r17, hr17, hm⟩ := cv_bd_s hm
      refine cv_goW (q := 84) C (KX6_say (l := l) (σ := σ) (D := D) (cy := cy)  q  j14 ((r16).toInt64) hr17) (cv_rv (As := [.long (r16).toInt64]) (st := []) (n := 1) (q0 := 0) (ci := 6) C (KX6_say (l := l) (σ := σ) (D := D) (cy := cy)  q  j14 ((r16).toInt64) hr17) rfl rfl gX6_digest_X6_say rfl ⟨rfl, rfl⟩ (by decide +kernel) rfl ⟨Nat.le_of_ble_eq_true rfl, Nat.le_of_ble_eq_true rfl⟩ rfl (Nat.le_of_ble_eq_true rfl) dX6_digest_81 ⟨Nat.zero_le _, Nat.zero_le _⟩) rfl ?_
      refine cv_aload_n (i := 0) (q := 85) 0 C dX6_digest_84 rfl rfl rfl ?_
      refine cv_aload_n (i := 0) (q := 86) 0 C dX6_digest_85 rfl rfl rfl ?_
      refine cv_bipush (v := 7) (q := 88) C dX6_digest_86 (by decide) rfl ?_
      obtain ⟨r18, hr18, hm⟩ := cv_bd_s hm
      refine cv_goW (q := 91) C (KX6_askOf (l := l) (σ := σ) (D := D) (cy := cy)  q  r17 (7 : Int32) hr18) (cv_rv (As := [.int (7 : Int32)]) (st := [.ref (q 0)]) (n := 1) (q0 := 0) (ci := 6) C (KX6_askOf (l := l) (σ := σ) (D := D) (cy := cy)  q  r17 (7 : Int32) hr18) rfl rfl gX6_digest_X6_askOf rfl ⟨rfl, rfl⟩ (by decide +kernel) rfl ⟨Nat.le_of_ble_eq_true rfl, Nat.le_of_ble_eq_true rfl⟩ rfl (Nat.le_of_ble_eq_true rfl) dX6_digest_88 ⟨Nat.zero_le _, Nat.zero_le _⟩) rfl ?_
      refine cv_i2l (q := 92) C dX6_digest_91 rfl ?_
      obtain ⟨r19, hr19, hm⟩ := cv_bd_s hm
      refine cv_goW (q := 95) C (KX6_say (l := l) (σ := σ) (D := D) (cy := cy)  q  r17 ((r18).toInt64) hr19) (cv_rv (As := [.long (r18).toInt64]) (st := []) (n := 1) (q0 := 0) (ci := 6) C (KX6_say (l := l) (σ := σ) (D := D) (cy := cy)  q  r17 ((r18).toInt64) hr19) rfl rfl gX6_digest_X6_say rfl ⟨rfl, rfl⟩ (by decide +kernel) rfl ⟨Nat.le_of_ble_eq_true rfl, Nat.le_of_ble_eq_true rfl⟩ rfl (Nat.le_of_ble_eq_true rfl) dX6_digest_92 ⟨Nat.zero_le _, Nat.zero_le _⟩) rfl ?_
      refine cv_iconst (v := 0) (q := 96) C dX6_digest_95 (by decide) rfl ?_
      refine cv_istore_n (i := 1) (lv' := [(1, .int (0 : Int32)), (0, .ref (q 0))]) (q := 97) C dX6_digest_96 rfl (by decide) rfl rfl ?_
      obtain ⟨j24, hj24, hm⟩ := cv_bd_s hm
      refine cv_cut (ws' := (wX6 q cy j24)) (pc' := 122) (lv' := [(0, .ref (q 0))]) (st' := []) ?_ (fun K25 => ?_)
      · refine cv_iconst (v := 0) (q := 123) C dX6_digest_122 (by decide) rfl ?_
        refine cv_istore_n (i := 1) (lv' := [(1, .int (0 : Int32)), (0, .ref (q 0))]) (q := 124) C dX6_digest_123 rfl (by decide) rfl rfl ?_
        obtain ⟨j30, hj30, hm⟩ := cv_bd_s hm
        refine cv_cut (ws' := (wX6 q cy j30)) (pc' := 146) (lv' := [(0, .ref (q 0))]) (st' := []) ?_ (fun K31 => ?_)
        · refine cv_aload_n (i := 0) (q := 147) 0 C dX6_digest_146 rfl rfl rfl ?_
          refine cv_get (q := 150) C iX6_digest_X6 0 rfl rfl 49 (by decide) (List.mem_of_getElem? (i := 2) rfl) rfl rfl dX6_digest_147 rfl ?_
          obtain rfl := Option.some.inj hm
          exact cv_lret C hr hk dX6_digest_150
        · refine cv_sub [1, 0] rfl ?_
          exact vX6_digest_L124 q  C 256 (0 : Int32) j24 hj30 K31
      · refine cv_sub [1, 0] rfl ?_
        exact vX6_digest_L97 q  C 256 (0 : Int32) r19 hj24 K25
    · have hm := hj14
      refine cv_if_ne (tgt := 73) (q := 69) C dX6_digest_66 (by decide) rfl (fun h32 => ?_) (fun h32 => ?_)
      · have hm := cv_if_f h32 hm
        obtain rfl := Option.some.inj hm
        exact K15
      · have hm := cv_if_t h32 hm
        refine cv_aload_n (i := 0) (q := 70) 0 C dX6_digest_69 rfl rfl rfl ?_
        obtain ⟨r33, hr33, hm⟩ := cv_bd_s hm
        refine cv_goW (q := 73) C (KX6_sayShelf (l := l) (σ := σ) (D := D) (cy := cy)  q  j11  hr33) (cv_rv (As := []) (st := []) (n := 0) (q0 := 0) (ci := 6) C (KX6_sayShelf (l := l) (σ := σ) (D := D) (cy := cy)  q  j11  hr33) rfl rfl gX6_digest_X6_sayShelf rfl ⟨rfl, rfl⟩ (by decide +kernel) rfl ⟨Nat.le_of_ble_eq_true rfl, Nat.le_of_ble_eq_true rfl⟩ rfl (Nat.le_of_ble_eq_true rfl) dX6_digest_70 ⟨Nat.zero_le _, Nat.zero_le _⟩) rfl ?_
        obtain rfl := Option.some.inj hm
        exact K15
  · refine cv_sub [1, 0] rfl ?_
    exact vX6_digest_L9 q  C 256 (0 : Int32) s1 hj11 K12
