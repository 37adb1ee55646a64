def fX1_append (S : SX1) (a1 : Int32) : Option (Int32 × SX1) :=
  if (gX1_length S) < (54 : Int32) then
    (
    cv_gd (0 ≤ ((gX1_length S)).toInt ∧ ((gX1_length S)).toInt < 54) <|
    cv_lt (sX1_letters S (upd (gX1_letters S) ((gX1_length S)).toNatClampNeg a1)) fun s3 =>
    cv_lt (sX1_length s3 ((gX1_length s3) + (1 : Int32))) fun s4 =>
    some ((1 : Int32), s4)
    )
  else
    (
    some ((0 : Int32), S)
    )
abbrev rX1_append : Room := { frames := 0, cells := 0, slots := 0, locals := 0 }
theorem iX1_append_X1 : ∀ w ∈ u_ws RX1 TX1 2, w ∈ wsX1_append := fun w h => List.mem_cons_of_mem _ (List.mem_append_right _ h)
set_option maxHeartbeats 4000000 in
set_option maxRecDepth 100000 in
theorem KX1_append {l : Launch} {σ : Nat → Nat} {D : va_G} {cy : ClassId} (q : Nat → Nat) (S : SX1) (a1 : Int32) {res : Int32 × SX1} (hm : fX1_append S a1 = some res) : cv_M l yX1_append wsX1_append rX1_append σ D [(cy, .int)] [.ref (q 0), .int a1] (wX1 q cy S) (some (.int res.1)) (wX1 q cy res.2) := by
  unfold fX1_append at hm
  refine cv_M.of (own := RX1) (by decide +kernel) rfl rfl (lv := [(0, .ref (q 0)), (1, .int a1)]) rfl (Nat.le_of_ble_eq_true rfl) ?_
  intro p e s m args below meth c A C hr hk
  refine cv_aload_n (i := 0) (q := 1) 0 C dX1_append_0 rfl rfl rfl ?_
  refine cv_get (q := 4) C iX1_append_X1 0 rfl rfl 1 (by decide) (List.mem_of_getElem? (i := 1) rfl) rfl rfl dX1_append_1 rfl ?_
  refine cv_aload_n (i := 0) (q := 5) 0 C dX1_append_4 rfl rfl rfl ?_
  refine cv_get (q := 8) C iX1_append_X1 0 rfl rfl 0 (by decide) (List.mem_of_getElem? (i := 2) rfl) rfl rfl dX1_append_5 rfl ?_
  refine cv_alen (v := 54) (q := 9) C 1 0 rfl rfl (by decide) dX1_append_8 rfl ?_
  refine cv_icmp_lt (tgt := 14) (q := 12) C dX1_append_9 (by decide) rfl (fun h1 => ?_) (fun h1 => ?_)
  · have hm := cv_if_t h1 hm
    refine cv_aload_n (i := 0) (q := 15) 0 C dX1_append_14 rfl rfl rfl ?_
    refine cv_get (q := 18) C iX1_append_X1 0 rfl rfl 0 (by decide) (List.mem_of_getElem? (i := 2) rfl) rfl rfl dX1_append_15 rfl ?_
    refine cv_aload_n (i := 0) (q := 19) 0 C dX1_append_18 rfl rfl rfl ?_
    refine cv_get (q := 22) C iX1_append_X1 0 rfl rfl 1 (by decide) (List.mem_of_getElem? (i := 1) rfl) rfl rfl dX1_append_19 rfl ?_
    refine cv_iload_n (i := 1) (q := 23) 1 C dX1_append_22 rfl rfl rfl ?_
    obtain ⟨g2, hm⟩ := cv_gd_s hm
    obtain ⟨s3, es3, hm⟩ := cv_lt_s hm
    refine cv_iast (q := 24) (ws' := (wX1 q cy s3)) C 1 0 rfl rfl (vp_in_iff.mpr g2) dX1_append_23 rfl (by rw [es3]; rfl) ?_
    refine cv_aload_n (i := 0) (q := 25) 0 C dX1_append_24 rfl rfl rfl ?_
    refine cv_dup (q := 26) C dX1_append_25 rfl rfl ?_
    refine cv_get (q := 29) C iX1_append_X1 0 rfl rfl 1 (by decide) (List.mem_of_getElem? (i := 1) rfl) rfl rfl dX1_append_26 rfl ?_
    refine cv_iconst (v := 1) (q := 30) C dX1_append_29 (by decide) rfl ?_
    refine cv_iadd (q := 31) C dX1_append_30 rfl ?_
    obtain ⟨s4, es4, hm⟩ := cv_lt_s hm
    refine cv_put (q := 34) (ws' := (wX1 q cy s4)) C iX1_append_X1 tyX1 tyX1_ok nmX1 0 rfl rfl 1 (by decide) (List.mem_of_getElem? (i := 1) rfl) rfl rfl rfl rfl rfl (Nat.le_of_ble_eq_true rfl) dX1_append_31 rfl (by rw [es4]; rfl) ?_
    refine cv_iconst (v := 1) (q := 35) C dX1_append_34 (by decide) rfl ?_
    obtain rfl := Option.some.inj hm
    exact cv_zret C hr hk (cv_bool (Or.inr rfl)) dX1_append_35
  · have hm := cv_if_f h1 hm
    refine cv_iconst (v := 0) (q := 13) C dX1_append_12 (by decide) rfl ?_
    obtain rfl := Option.some.inj hm
    exact cv_zret C hr hk (cv_bool (Or.inl rfl)) dX1_append_13
def fX1_code (S : SX1) (a1 : Int32) : Option (Int32) :=
  if a1 < 0 then
    (
    some (0 : Int32)
    )
  else
    (
    if (gX1_length S) ≤ a1 then
      (
      some (0 : Int32)
      )
    else
      (
      cv_gd (0 ≤ (a1).toInt ∧ (a1).toInt < 54) <|
      some ((gX1_letters S) (a1).toNatClampNeg)
      )
    )
abbrev rX1_code : Room := { frames := 0, cells := 0, slots := 0, locals := 0 }
theorem iX1_code_X1 : ∀ w ∈ u_ws RX1 TX1 2, w ∈ wsX1_code := fun w h => List.mem_cons_of_mem _ (List.mem_append_right _ h)
set_option maxHeartbeats 4000000 in
set_option maxRecDepth 100000 in
theorem KX1_code {l : Launch} {σ : Nat → Nat} {D : va_G} {cy : ClassId} (q : Nat → Nat) (S : SX1) (a1 : Int32) {res : Int32} (hm : fX1_code S a1 = some res) : cv_M l yX1_code wsX1_code rX1_code σ D [(cy, .int)] [.ref (q 0), .int a1] (wX1 q cy S) (some (.int res)) (wX1 q cy S) := by
  unfold fX1_code at hm
  refine cv_M.of (own := RX1) (by decide +kernel) rfl rfl (lv := [(0, .ref (q 0)), (1, .int a1)]) rfl (Nat.le_of_ble_eq_true rfl) ?_
  intro p e s m args below meth c A C hr hk
  refine cv_iload_n (i := 1) (q := 1) 1 C dX1_code_0 rfl rfl rfl ?_
  refine cv_if_lt (tgt := 21) (q := 4) C dX1_code_1 (by decide) rfl (fun h1 => ?_) (fun h1 => ?_)
  · have hm := cv_if_t h1 hm
    refine cv_iconst (v := 0) (q := 22) C dX1_code_21 (by decide) rfl ?_
    obtain rfl := Option.some.inj hm
    exact cv_iret C hr hk dX1_code_22
  · have hm := cv_if_f h1 hm
    refine cv_iload_n (i := 1) (q := 5) 1 C dX1_code_4 rfl rfl rfl ?_
    refine cv_aload_n (i := 0) (q := 6) 0 C dX1_code_5 rfl rfl rfl ?_
    refine cv_get (q := 9) C iX1_code_X1 0 rfl rfl 1 (by decide) (List.mem_of_getElem? (i := 1) rfl) rfl rfl dX1_code_6 rfl ?_
    refine cv_icmp_ge (tgt := 21) (q := 12) C dX1_code_9 (by decide) rfl (fun h2 => ?_) (fun h2 => ?_)
    · have hm := cv_if_t h2 hm
      refine cv_iconst (v := 0) (q := 22) C dX1_code_21 (by decide) rfl ?_
      obtain rfl := Option.some.inj hm
      exact cv_iret C hr hk dX1_code_22
    · have hm := cv_if_f h2 hm
      refine cv_aload_n (i := 0) (q := 13) 0 C dX1_code_12 rfl rfl rfl ?_
      refine cv_get (q := 16) C iX1_code_X1 0 rfl rfl 0 (by decide) (List.mem_of_getElem? (i := 2) rfl) rfl rfl dX1_code_13 rfl ?_
      refine cv_iload_n (i := 1) (q := 17) 1 C dX1_code_16 rfl rfl rfl ?_
      obtain ⟨g3, hm⟩ := cv_gd_s hm
      refine cv_iald (q := 18) C 1 0 rfl rfl (vp_in_iff.mpr g3) dX1_code_17 rfl ?_
      refine cv_goto (tgt := 22) C dX1_code_18 (by decide) ?_
      obtain rfl := Option.some.inj hm
      exact cv_iret C hr hk dX1_code_22
def fX1_digit (S : SX1) (a1 : Int32) : Option (Int32) :=
  cv_bd (fX1_code S a1) fun r1 =>
  some (r1 - (48 : Int32))
abbrev rX1_digit : Room := { frames := 1, cells := 0, slots := 0, locals := 21 }
set_option maxHeartbeats 4000000 in
set_option maxRecDepth 100000 in
theorem KX1_digit {l : Launch} {σ : Nat → Nat} {D : va_G} {cy : ClassId} (q : Nat → Nat) (S : SX1) (a1 : Int32) {res : Int32} (hm : fX1_digit S a1 = some res) : cv_M l yX1_digit wsX1_digit rX1_digit σ D [(cy, .int)] [.ref (q 0), .int a1] (wX1 q cy S) (some (.int res)) (wX1 q cy S) := by
  unfold fX1_digit at hm
  refine cv_M.of (own := RX1) (by decide +kernel) rfl rfl (lv := [(0, .ref (q 0)), (1, .int a1)]) rfl (Nat.le_of_ble_eq_true rfl) ?_
  intro p e s m args below meth c A C hr hk
  refine cv_aload_n (i := 0) (q := 1) 0 C dX1_digit_0 rfl rfl rfl ?_
  refine cv_iload_n (i := 1) (q := 2) 1 C dX1_digit_1 rfl rfl rfl ?_
  obtain ⟨r1, hr1, hm⟩ := cv_bd_s hm
  refine cv_goW (q := 5) C (KX1_code (l := l) (σ := σ) (D := D) (cy := cy)  q  S a1 hr1) (cv_rv (As := [.int a1]) (st := []) (n := 1) (q0 := 0) (ci := 1) C (KX1_code (l := l) (σ := σ) (D := D) (cy := cy)  q  S a1 hr1) rfl rfl gX1_digit_X1_code rfl ⟨rfl, rfl⟩ (by decide +kernel) rfl ⟨Nat.le_of_ble_eq_true rfl, Nat.le_of_ble_eq_true rfl⟩ rfl (Nat.le_of_ble_eq_true rfl) dX1_digit_2 ⟨Nat.zero_le _, Nat.zero_le _⟩) rfl ?_
  refine cv_bipush (v := 48) (q := 7) C dX1_digit_5 (by decide) rfl ?_
  refine cv_isub (q := 8) C dX1_digit_7 rfl ?_
  obtain rfl := Option.some.inj hm
  exact cv_iret C hr hk dX1_digit_8
def fX5_isRatio (a0 : Int32) (a1 : Int32) : Option (Int32) :=
  if a0 < (2 : Int32) then
    (
    some (0 : Int32)
    )
  else
    (
    if a1 ≤ a0 then
      (
      some (0 : Int32)
      )
    else
      (
      if (5 : Int32) < a1 then
        (
        some (0 : Int32)
        )
      else
        (
        if ((2 : Int32) * a0) ≤ a1 then
          (
          some (0 : Int32)
          )
        else
          (
          some (1 : Int32)
          )
        )
      )
    )
abbrev rX5_isRatio : Room := { frames := 0, cells := 0, slots := 0, locals := 0 }
set_option maxHeartbeats 4000000 in
set_option maxRecDepth 100000 in
theorem KX5_isRatio {l : Launch} {σ : Nat → Nat} {D : va_G} {cy : ClassId} (a0 : Int32) (a1 : Int32) {res : Int32} (hm : fX5_isRatio a0 a1 = some res) : cv_M l yX5_isRatio wsX5_isRatio rX5_isRatio σ D [(cy, .int)] [.int a0, .int a1] [] (some (.int res)) [] := by
  unfold fX5_isRatio at hm
  refine cv_M.of (own := RX5) (by decide +kernel) rfl rfl (lv := [(0, .int a0), (1, .int a1)]) rfl (Nat.le_of_ble_eq_true rfl) ?_
  intro p e s m args below meth c A C hr hk
  refine cv_iload_n (i := 0) (q := 1) 0 C dX5_isRatio_0 rfl rfl rfl ?_
  refine cv_iconst (v := 2) (q := 2) C dX5_isRatio_1 (by decide) rfl ?_
  refine cv_icmp_lt (tgt := 26) (q := 5) C dX5_isRatio_2 (by decide) rfl (fun h1 => ?_) (fun h1 => ?_)
  · have hm := cv_if_t h1 hm
    refine cv_iconst (v := 0) (q := 27) C dX5_isRatio_26 (by decide) rfl ?_
    obtain rfl := Option.some.inj hm
    exact cv_zret C hr hk (cv_bool (Or.inl rfl)) dX5_isRatio_27
  · have hm := cv_if_f h1 hm
    refine cv_iload_n (i := 0) (q := 6) 0 C dX5_isRatio_5 rfl rfl rfl ?_
    refine cv_iload_n (i := 1) (q := 7) 1 C dX5_isRatio_6 rfl rfl rfl ?_
    refine cv_icmp_ge (tgt := 26) (q := 10) C dX5_isRatio_7 (by decide) rfl (fun h2 => ?_) (fun h2 => ?_)
    · have hm := cv_if_t h2 hm
      refine cv_iconst (v := 0) (q := 27) C dX5_isRatio_26 (by decide) rfl ?_
      obtain rfl := Option.some.inj hm
      exact cv_zret C hr hk (cv_bool (Or.inl rfl)) dX5_isRatio_27
    · have hm := cv_if_f h2 hm
      refine cv_iload_n (i := 1) (q := 11) 1 C dX5_isRatio_10 rfl rfl rfl ?_
      refine cv_iconst (v := 5) (q := 12) C dX5_isRatio_11 (by decide) rfl ?_
      refine cv_icmp_gt (tgt := 26) (q := 15) C dX5_isRatio_12 (by decide) rfl (fun h3 => ?_) (fun h3 => ?_)
      · have hm := cv_if_t h3 hm
        refine cv_iconst (v := 0) (q := 27) C dX5_isRatio_26 (by decide) rfl ?_
        obtain rfl := Option.some.inj hm
        exact cv_zret C hr hk (cv_bool (Or.inl rfl)) dX5_isRatio_27
      · have hm := cv_if_f h3 hm
        refine cv_iconst (v := 2) (q := 16) C dX5_isRatio_15 (by decide) rfl ?_
        refine cv_iload_n (i := 0) (q := 17) 0 C dX5_isRatio_16 rfl rfl rfl ?_
        refine cv_imul (q := 18) C dX5_isRatio_17 rfl ?_
        refine cv_iload_n (i := 1) (q := 19) 1 C dX5_isRatio_18 rfl rfl rfl ?_
        refine cv_icmp_le (tgt := 26) (q := 22) C dX5_isRatio_19 (by decide) rfl (fun h4 => ?_) (fun h4 => ?_)
        · have hm := cv_if_t h4 hm
          refine cv_iconst (v := 0) (q := 27) C dX5_isRatio_26 (by decide) rfl ?_
          obtain rfl := Option.some.inj hm
          exact cv_zret C hr hk (cv_bool (Or.inl rfl)) dX5_isRatio_27
        · have hm := cv_if_f h4 hm
          refine cv_iconst (v := 1) (q := 23) C dX5_isRatio_22 (by decide) rfl ?_
          refine cv_goto (tgt := 27) C dX5_isRatio_23 (by decide) ?_
          obtain rfl := Option.some.inj hm
          exact cv_zret C hr hk (cv_bool (Or.inr rfl)) dX5_isRatio_27
def fX1_isDigit (S : SX1) (a1 : Int32) : Option (Int32) :=
  cv_bd (fX1_code S a1) fun r1 =>
  if r1 < (48 : Int32) then
    (
    some (0 : Int32)
    )
  else
    (
    cv_bd (fX1_code S a1) fun r3 =>
    if (57 : Int32) < r3 then
      (
      some (0 : Int32)
      )
    else
      (
      some (1 : Int32)
      )
    )
abbrev rX1_isDigit : Room := { frames := 1, cells := 0, slots := 0, locals := 21 }
set_option maxHeartbeats 4000000 in
set_option maxRecDepth 100000 in
theorem KX1_isDigit {l : Launch} {σ : Nat → Nat} {D : va_G} {cy : ClassId} (q : Nat → Nat) (S : SX1) (a1 : Int32) {res : Int32} (hm : fX1_isDigit S a1 = some res) : cv_M l yX1_isDigit wsX1_isDigit rX1_isDigit σ D [(cy, .int)] [.ref (q 0), .int a1] (wX1 q cy S) (some (.int res)) (wX1 q cy S) := by
  unfold fX1_isDigit at hm
  refine cv_M.of (own := RX1) (by decide +kernel) rfl rfl (lv := [(0, .ref (q 0)), (1, .int a1)]) rfl (Nat.le_of_ble_eq_true rfl) ?_
  intro p e s m args below meth c A C hr hk
  refine cv_aload_n (i := 0) (q := 1) 0 C dX1_isDigit_0 rfl rfl rfl ?_
  refine cv_iload_n (i := 1) (q := 2) 1 C dX1_isDigit_1 rfl rfl rfl ?_
  obtain ⟨r1, hr1, hm⟩ := cv_bd_s hm
  refine cv_goW (q := 5) C (KX1_code (l := l) (σ := σ) (D := D) (cy := cy)  q  S a1 hr1) (cv_rv (As := [.int a1]) (st := []) (n := 1) (q0 := 0) (ci := 1) C (KX1_code (l := l) (σ := σ) (D := D) (cy := cy)  q  S a1 hr1) rfl rfl gX1_isDigit_X1_code rfl ⟨rfl, rfl⟩ (by decide +kernel) rfl ⟨Nat.le_of_ble_eq_true rfl, Nat.le_of_ble_eq_true rfl⟩ rfl (Nat.le_of_ble_eq_true rfl) dX1_isDigit_2 ⟨Nat.zero_le _, Nat.zero_le _⟩) rfl ?_
  refine cv_bipush (v := 48) (q := 7) C dX1_isDigit_5 (by decide) rfl ?_
  refine cv_icmp_lt (tgt := 24) (q := 10) C dX1_isDigit_7 (by decide) rfl (fun h2 => ?_) (fun h2 => ?_)
  · have hm := cv_if_t h2 hm
    refine cv_iconst (v := 0) (q := 25) C dX1_isDigit_24 (by decide) rfl ?_
    obtain rfl := Option.some.inj hm
    exact cv_zret C hr hk (cv_bool (Or.inl rfl)) dX1_isDigit_25
  · have hm := cv_if_f h2 hm
    refine cv_aload_n (i := 0) (q := 11) 0 C dX1_isDigit_10 rfl rfl rfl ?_
    refine cv_iload_n (i := 1) (q := 12) 1 C dX1_isDigit_11 rfl rfl rfl ?_
    obtain ⟨r3, hr3, hm⟩ := cv_bd_s hm
    refine cv_goW (q := 15) C (KX1_code (l := l) (σ := σ) (D := D) (cy := cy)  q  S a1 hr3) (cv_rv (As := [.int a1]) (st := []) (n := 1) (q0 := 0) (ci := 1) C (KX1_code (l := l) (σ := σ) (D := D) (cy := cy)  q  S a1 hr3) rfl rfl gX1_isDigit_X1_code rfl ⟨rfl, rfl⟩ (by decide +kernel) rfl ⟨Nat.le_of_ble_eq_true rfl, Nat.le_of_ble_eq_true rfl⟩ rfl (Nat.le_of_ble_eq_true rfl) dX1_isDigit_12 ⟨Nat.zero_le _, Nat.zero_le _⟩) rfl ?_
    refine cv_bipush (v := 57) (q := 17) C dX1_isDigit_15 (by decide) rfl ?_
    refine cv_icmp_gt (tgt := 24) (q := 20) C dX1_isDigit_17 (by decide) rfl (fun h4 => ?_) (fun h4 => ?_)
    · have hm := cv_if_t h4 hm
      refine cv_iconst (v := 0) (q := 25) C dX1_isDigit_24 (by decide) rfl ?_
      obtain rfl := Option.some.inj hm
      exact cv_zret C hr hk (cv_bool (Or.inl rfl)) dX1_isDigit_25
    · have hm := cv_if_f h4 hm
      refine cv_iconst (v := 1) (q := 21) C dX1_isDigit_20 (by decide) rfl ?_
      refine cv_goto (tgt := 25) C dX1_isDigit_21 (by decide) ?_
      obtain rfl := Option.some.inj hm
      exact cv_zret C hr hk (cv_bool (Or.inr rfl)) dX1_isDigit_25
def fJ0_isLatin1_aae02  : Option (Int32) :=
  some (1 : Int32)
abbrev rJ0_isLatin1_aae02 : Room := { frames := 0, cells := 0, slots := 0, locals := 0 }
set_option maxHeartbeats 4000000 in
set_option maxRecDepth 100000 in
theorem KJ0_isLatin1_aae02 {l : Launch} {σ : Nat → Nat} {D : va_G} {cy : ClassId}  {res : Int32} (hm : fJ0_isLatin1_aae02  = some res) : cv_M l yJ0_isLatin1_aae02 wsJ0_isLatin1_aae02 rJ0_isLatin1_aae02 σ D [(cy, .int)] [.ref (σ 1)] [] (some (.int res)) [] := by
  unfold fJ0_isLatin1_aae02 at hm
  refine cv_M.of (own := RJ0) (by decide +kernel) rfl rfl (lv := [(0, .ref (σ 1))]) rfl (Nat.le_of_ble_eq_true rfl) ?_
  intro p e s m args below meth c A C hr hk
  refine cv_gcs (q := 3) C (List.mem_of_getElem? (i := 1) rfl) dJ0_isLatin1_aae02_0 rfl ?_
  refine cv_if_eq (tgt := 17) (q := 6) C dJ0_isLatin1_aae02_3 (by decide) rfl (fun h => absurd h (by decide)) (fun _ => ?_)
  refine cv_aload_n (i := 0) (q := 7) 0 C dJ0_isLatin1_aae02_6 rfl rfl rfl ?_
  refine cv_gtc (q := 10) C (List.mem_of_getElem? (i := 2) rfl) dJ0_isLatin1_aae02_7 rfl ?_
  refine cv_if_ne (tgt := 17) (q := 13) C dJ0_isLatin1_aae02_10 (by decide) rfl (fun h => absurd h (by decide)) (fun _ => ?_)
  refine cv_iconst (v := 1) (q := 14) C dJ0_isLatin1_aae02_13 (by decide) rfl ?_
  refine cv_goto (tgt := 18) C dJ0_isLatin1_aae02_14 (by decide) ?_
  obtain rfl := Option.some.inj hm
  exact cv_zret C hr hk (cv_bool (Or.inr rfl)) dJ0_isLatin1_aae02_18
def fJ0_coder_7d493  : Option (Int32) :=
  some (0 : Int32)
abbrev rJ0_coder_7d493 : Room := { frames := 0, cells := 0, slots := 0, locals := 0 }
set_option maxHeartbeats 4000000 in
set_option maxRecDepth 100000 in
theorem KJ0_coder_7d493 {l : Launch} {σ : Nat → Nat} {D : va_G} {cy : ClassId}  {res : Int32} (hm : fJ0_coder_7d493  = some res) : cv_M l yJ0_coder_7d493 wsJ0_coder_7d493 rJ0_coder_7d493 σ D [(cy, .int)] [.ref (σ 1)] [] (some (.int res)) [] := by
  unfold fJ0_coder_7d493 at hm
  refine cv_M.of (own := RJ0) (by decide +kernel) rfl rfl (lv := [(0, .ref (σ 1))]) rfl (Nat.le_of_ble_eq_true rfl) ?_
  intro p e s m args below meth c A C hr hk
  refine cv_gcs (q := 3) C (List.mem_of_getElem? (i := 1) rfl) dJ0_coder_7d493_0 rfl ?_
  refine cv_if_eq (tgt := 13) (q := 6) C dJ0_coder_7d493_3 (by decide) rfl (fun h => absurd h (by decide)) (fun _ => ?_)
  refine cv_aload_n (i := 0) (q := 7) 0 C dJ0_coder_7d493_6 rfl rfl rfl ?_
  refine cv_gtc (q := 10) C (List.mem_of_getElem? (i := 2) rfl) dJ0_coder_7d493_7 rfl ?_
  refine cv_goto (tgt := 14) C dJ0_coder_7d493_10 (by decide) ?_
  obtain rfl := Option.some.inj hm
  exact cv_bret C hr hk (by decide) dJ0_coder_7d493_14
def fJ0_length_8abf5  : Option (Int32) :=
  cv_bd (fJ0_coder_7d493 ) fun r1 =>
  some ((5 : Int32) >>> ((0 : Int32) &&& 31))
abbrev rJ0_length_8abf5 : Room := { frames := 1, cells := 0, slots := 0, locals := 20 }
set_option maxHeartbeats 4000000 in
set_option maxRecDepth 100000 in
theorem KJ0_length_8abf5 {l : Launch} {σ : Nat → Nat} {D : va_G} {cy : ClassId}  {res : Int32} (hm : fJ0_length_8abf5  = some res) : cv_M l yJ0_length_8abf5 wsJ0_length_8abf5 rJ0_length_8abf5 σ D [(cy, .int)] [.ref (σ 1)] [] (some (.int res)) [] := by
  unfold fJ0_length_8abf5 at hm
  refine cv_M.of (own := RJ0) (by decide +kernel) rfl rfl (lv := [(0, .ref (σ 1))]) rfl (Nat.le_of_ble_eq_true rfl) ?_
  intro p e s m args below meth c A C hr hk
  refine cv_aload_n (i := 0) (q := 1) 0 C dJ0_length_8abf5_0 rfl rfl rfl ?_
  refine cv_gtv (q := 4) C (List.mem_of_getElem? (i := 1) rfl) dJ0_length_8abf5_1 rfl ?_
  refine cv_blen (q := 5) C dJ0_length_8abf5_4 rfl ?_
  refine cv_aload_n (i := 0) (q := 6) 0 C dJ0_length_8abf5_5 rfl rfl rfl ?_
  obtain ⟨r1, hr1, hm⟩ := cv_bd_s hm
  obtain rfl : (0 : Int32) = r1 := Option.some.inj hr1
  refine cv_goE (q := 9) C (KJ0_coder_7d493 (l := l) (σ := σ) (D := D) (cy := cy)      hr1) (cv_rt (As := []) (st := [.int (5 : Int32)]) (n := 0) C (KJ0_coder_7d493 (l := l) (σ := σ) (D := D) (cy := cy)      hr1) gJ0_length_8abf5_J0_coder_7d493 rfl ⟨rfl, rfl⟩ (by decide +kernel) rfl ⟨Nat.le_of_ble_eq_true rfl, Nat.le_of_ble_eq_true rfl⟩ rfl (Nat.le_of_ble_eq_true rfl) dJ0_length_8abf5_6 ⟨Nat.zero_le _, Nat.zero_le _⟩) rfl ?_
  refine cv_ishr (q := 10) C dJ0_length_8abf5_9 rfl ?_
  obtain rfl := Option.some.inj hm
  exact cv_iret C hr hk dJ0_length_8abf5_10
def fJ1_canEncode_9a6ad (a0 : Int32) : Option (Int32) :=
  if a0 < 0 then
    (
    some (0 : Int32)
    )
  else
    (
    if (255 : Int32) < a0 then
      (
      some (0 : Int32)
      )
    else
      (
      some (1 : Int32)
      )
    )
abbrev rJ1_canEncode_9a6ad : Room := { frames := 0, cells := 0, slots := 0, locals := 0 }
set_option maxHeartbeats 4000000 in
set_option maxRecDepth 100000 in
theorem KJ1_canEncode_9a6ad {l : Launch} {σ : Nat → Nat} {D : va_G} {cy : ClassId} (a0 : Int32) {res : Int32} (hm : fJ1_canEncode_9a6ad a0 = some res) : cv_M l yJ1_canEncode_9a6ad wsJ1_canEncode_9a6ad rJ1_canEncode_9a6ad σ D [(cy, .int)] [.int a0] [] (some (.int res)) [] := by
  unfold fJ1_canEncode_9a6ad at hm
  refine cv_M.of (own := RJ1) (by decide +kernel) rfl rfl (lv := [(0, .int a0)]) rfl (Nat.le_of_ble_eq_true rfl) ?_
  intro p e s m args below meth c A C hr hk
  refine cv_iload_n (i := 0) (q := 1) 0 C dJ1_canEncode_9a6ad_0 rfl rfl rfl ?_
  refine cv_if_lt (tgt := 15) (q := 4) C dJ1_canEncode_9a6ad_1 (by decide) rfl (fun h1 => ?_) (fun h1 => ?_)
  · have hm := cv_if_t h1 hm
    refine cv_iconst (v := 0) (q := 16) C dJ1_canEncode_9a6ad_15 (by decide) rfl ?_
    obtain rfl := Option.some.inj hm
    exact cv_zret C hr hk (cv_bool (Or.inl rfl)) dJ1_canEncode_9a6ad_16
  · have hm := cv_if_f h1 hm
    refine cv_iload_n (i := 0) (q := 5) 0 C dJ1_canEncode_9a6ad_4 rfl rfl rfl ?_
    refine cv_sipush (v := 255) (q := 8) C dJ1_canEncode_9a6ad_5 (by decide) rfl ?_
    refine cv_icmp_gt (tgt := 15) (q := 11) C dJ1_canEncode_9a6ad_8 (by decide) rfl (fun h2 => ?_) (fun h2 => ?_)
    · have hm := cv_if_t h2 hm
      refine cv_iconst (v := 0) (q := 16) C dJ1_canEncode_9a6ad_15 (by decide) rfl ?_
      obtain rfl := Option.some.inj hm
      exact cv_zret C hr hk (cv_bool (Or.inl rfl)) dJ1_canEncode_9a6ad_16
    · have hm := cv_if_f h2 hm
      refine cv_iconst (v := 1) (q := 12) C dJ1_canEncode_9a6ad_11 (by decide) rfl ?_
      refine cv_goto (tgt := 16) C dJ1_canEncode_9a6ad_12 (by decide) ?_
      obtain rfl := Option.some.inj hm
      exact cv_zret C hr hk (cv_bool (Or.inr rfl)) dJ1_canEncode_9a6ad_16
def fJ1_indexOfChar_4cfef_L7 (u3 : Int32) (u4 : Int32) : Nat → Int32 → Option (Int32)
  | 0, _ => none
  | n + 1, y5 =>
    if u3 ≤ y5 then
      (
      some (-1 : Int32)
      )
    else
      (
      cv_gd (0 ≤ (y5).toInt ∧ (y5).toInt < 5) <|
      if (cv_bt (y5).toNatClampNeg) = u4 then
        (
        some y5
        )
      else
        (
        cv_lt (y5 + (1 : Int32)) fun x5 =>
        fJ1_indexOfChar_4cfef_L7 u3 u4 n x5
        )
      )
def fJ1_indexOfChar_4cfef (a1 : Int32) (a2 : Int32) (a3 : Int32) : Option (Int32) :=
  cv_lt ((a1).toInt8.toInt32) fun x1 =>
  fJ1_indexOfChar_4cfef_L7 a3 x1 256 a2
abbrev rJ1_indexOfChar_4cfef : Room := { frames := 0, cells := 0, slots := 0, locals := 0 }
set_option maxHeartbeats 4000000 in
set_option maxRecDepth 100000 in
theorem vJ1_indexOfChar_4cfef_L7 {p : Program} {l : Launch} {e : Env} {s : State} {m : MethodId} {args : Array Value} {below : List Frame} {meth : Method} {c : Code} {σ : Nat → Nat} {D : va_G} {A : Nat → Prop} {cy : ClassId} (u3 : Int32) (u4 : Int32) (C : cv_C p s m args c cJ1_indexOfChar_4cfef 6 RJ1 wsJ1_indexOfChar_4cfef σ D [(cy, .int)] A) (hr : meth.sig.returnType = some .int) (hk : meth.locks = false) {res : Int32} : ∀ (n : Nat) (y5 : Int32), fJ1_indexOfChar_4cfef_L7 u3 u4 n y5 = some res → cv_V p l e rJ1_indexOfChar_4cfef s m args below meth c 6 D A (cv_Q below (some (.int res)) [] D [(cy, .int)] A args s) 0 0 [] 7 [(0, .ref (σ 2)), (3, .int u3), (4, .int u4), (5, .int y5)] [] := by
  intro n
  induction n with
  | zero => intro y5 hm; cases hm
  | succ n ih =>
    intro y5 hm
    have hm : fJ1_indexOfChar_4cfef_L7 u3 u4 (n + 1) y5 = some res := hm
    unfold fJ1_indexOfChar_4cfef_L7 at hm
    refine cv_iload (i := 5) (q := 9) 3 C dJ1_indexOfChar_4cfef_7 rfl rfl ?_
    refine cv_iload_n (i := 3) (q := 10) 1 C dJ1_indexOfChar_4cfef_9 rfl rfl rfl ?_
    refine cv_icmp_ge (tgt := 31) (q := 13) C dJ1_indexOfChar_4cfef_10 (by decide) rfl (fun h2 => ?_) (fun h2 => ?_)
    · have hm := cv_if_t h2 hm
      refine cv_iconst (v := -1) (q := 32) C dJ1_indexOfChar_4cfef_31 (by decide) rfl ?_
      obtain rfl := Option.some.inj hm
      exact cv_iret C hr hk dJ1_indexOfChar_4cfef_32
    · have hm := cv_if_f h2 hm
      refine cv_aload_n (i := 0) (q := 14) 0 C dJ1_indexOfChar_4cfef_13 rfl rfl rfl ?_
      refine cv_iload (i := 5) (q := 16) 3 C dJ1_indexOfChar_4cfef_14 rfl rfl ?_
      obtain ⟨g3, hm⟩ := cv_gd_s hm
      refine cv_bald (q := 17) C (vp_in_iff.mpr g3) dJ1_indexOfChar_4cfef_16 rfl ?_
      refine cv_iload (i := 4) (q := 19) 2 C dJ1_indexOfChar_4cfef_17 rfl rfl ?_
      refine cv_icmp_ne (tgt := 25) (q := 22) C dJ1_indexOfChar_4cfef_19 (by decide) rfl (fun h4 => ?_) (fun h4 => ?_)
      · have hm := cv_if_f h4 hm
        obtain ⟨x5, ex5, hm⟩ := cv_lt_s hm
        refine cv_iinc (v := x5) (lv' := [(5, .int x5), (0, .ref (σ 2)), (3, .int u3), (4, .int u4)]) (q := 28) 3 C dJ1_indexOfChar_4cfef_25 rfl (by rw [ex5]; rfl) (by decide) rfl rfl ?_
        refine cv_goto (tgt := 7) C dJ1_indexOfChar_4cfef_28 (by decide) ?_
        refine cv_sub [1, 2, 3, 0] rfl ?_
        exact ih x5 hm
      · have hm := cv_if_t h4 hm
        refine cv_iload (i := 5) (q := 24) 3 C dJ1_indexOfChar_4cfef_22 rfl rfl ?_
        obtain rfl := Option.some.inj hm
        exact cv_iret C hr hk dJ1_indexOfChar_4cfef_24
set_option maxHeartbeats 4000000 in
set_option maxRecDepth 100000 in
theorem KJ1_indexOfChar_4cfef {l : Launch} {σ : Nat → Nat} {D : va_G} {cy : ClassId} (a1 : Int32) (a2 : Int32) (a3 : Int32) {res : Int32} (hm : fJ1_indexOfChar_4cfef a1 a2 a3 = some res) : cv_M l yJ1_indexOfChar_4cfef wsJ1_indexOfChar_4cfef rJ1_indexOfChar_4cfef σ D [(cy, .int)] [.ref (σ 2), .int a1, .int a2, .int a3] [] (some (.int res)) [] := by
  unfold fJ1_indexOfChar_4cfef at hm
  refine cv_M.of (own := RJ1) (by decide +kernel) rfl rfl (lv := [(0, .ref (σ 2)), (1, .int a1), (2, .int a2), (3, .int a3)]) rfl (Nat.le_of_ble_eq_true rfl) ?_
  intro p e s m args below meth c A C hr hk
  refine cv_iload_n (i := 1) (q := 1) 1 C dJ1_indexOfChar_4cfef_0 rfl rfl rfl ?_
  refine cv_i2b (q := 2) C dJ1_indexOfChar_4cfef_1 rfl ?_
  obtain ⟨x1, ex1, hm⟩ := cv_lt_s hm
  refine cv_topi ex1 ?_
  refine cv_istore (i := 4) (lv' := [(4, .int x1), (0, .ref (σ 2)), (1, .int a1), (2, .int a2), (3, .int a3)]) (q := 4) C dJ1_indexOfChar_4cfef_2 (by decide) rfl rfl ?_
  refine cv_iload_n (i := 2) (q := 5) 3 C dJ1_indexOfChar_4cfef_4 rfl rfl rfl ?_
  refine cv_istore (i := 5) (lv' := [(5, .int a2), (4, .int x1), (0, .ref (σ 2)), (1, .int a1), (2, .int a2), (3, .int a3)]) (q := 7) C dJ1_indexOfChar_4cfef_5 (by decide) rfl rfl ?_
  refine cv_sub [2, 5, 1, 0] rfl ?_
  exact vJ1_indexOfChar_4cfef_L7  a3 x1 C hr hk 256 a2 hm
def fJ1_indexOf_4cfef (a1 : Int32) (a2 : Int32) (a3 : Int32) : Option (Int32) :=
  cv_bd (fJ1_canEncode_9a6ad a1) fun r1 =>
  if r1 = 0 then
    (
    some (-1 : Int32)
    )
  else
    (
    cv_lt ((cv_max a2 (0 : Int32))) fun x3 =>
    cv_lt ((cv_min a3 (5 : Int32))) fun x4 =>
    if x3 < x4 then
      (
      cv_bd (fJ1_indexOfChar_4cfef a1 x3 x4) fun r6 =>
      some r6
      )
    else
      (
      some (-1 : Int32)
      )
    )
abbrev rJ1_indexOf_4cfef : Room := { frames := 1, cells := 0, slots := 0, locals := 25 }
set_option maxHeartbeats 4000000 in
set_option maxRecDepth 100000 in
theorem KJ1_indexOf_4cfef {l : Launch} {σ : Nat → Nat} {D : va_G} {cy : ClassId} (a1 : Int32) (a2 : Int32) (a3 : Int32) {res : Int32} (hm : fJ1_indexOf_4cfef a1 a2 a3 = some res) : cv_M l yJ1_indexOf_4cfef wsJ1_indexOf_4cfef rJ1_indexOf_4cfef σ D [(cy, .int)] [.ref (σ 2), .int a1, .int a2, .int a3] [] (some (.int res)) [] := by
  unfold fJ1_indexOf_4cfef at hm
  refine cv_M.of (own := RJ1) (by decide +kernel) rfl rfl (lv := [(0, .ref (σ 2)), (1, .int a1), (2, .int a2), (3, .int a3)]) rfl (Nat.le_of_ble_eq_true rfl) ?_
  intro p e s m args below meth c A C hr hk
  refine cv_iload_n (i := 1) (q := 1) 1 C dJ1_indexOf_4cfef_0 rfl rfl rfl ?_
  obtain ⟨r1, hr1, hm⟩ := cv_bd_s hm
  refine cv_goE (q := 4) C (KJ1_canEncode_9a6ad (l := l) (σ := σ) (D := D) (cy := cy)     a1 hr1) (cv_rs (As := [.int a1]) (st := []) (n := 1) C (KJ1_canEncode_9a6ad (l := l) (σ := σ) (D := D) (cy := cy)     a1 hr1) gJ1_indexOf_4cfef_J1_canEncode_9a6ad rfl ⟨rfl, rfl⟩ (by decide +kernel) rfl ⟨Nat.le_of_ble_eq_true rfl, Nat.le_of_ble_eq_true rfl⟩ rfl (Nat.le_of_ble_eq_true rfl) dJ1_indexOf_4cfef_1 ⟨Nat.zero_le _, Nat.zero_le _⟩) rfl ?_
  refine cv_if_ne (tgt := 9) (q := 7) C dJ1_indexOf_4cfef_4 (by decide) rfl (fun h2 => ?_) (fun h2 => ?_)
  · have hm := cv_if_f h2 hm
    refine cv_iload_n (i := 2) (q := 10) 2 C dJ1_indexOf_4cfef_9 rfl rfl rfl ?_
    refine cv_iconst (v := 0) (q := 11) C dJ1_indexOf_4cfef_10 (by decide) rfl ?_
    refine cv_mmax (q := 14) C (List.mem_of_getElem? (i := 1) rfl) (List.mem_of_getElem? (i := 2) rfl) (List.mem_of_getElem? (i := 3) rfl) (List.mem_of_getElem? (i := 4) rfl) (Nat.le_of_ble_eq_true rfl) (Nat.le_of_ble_eq_true rfl) dJ1_indexOf_4cfef_11 rfl (Nat.zero_le _) (Nat.zero_le _) ?_
    obtain ⟨x3, ex3, hm⟩ := cv_lt_s hm
    refine cv_topi ex3 ?_
    refine cv_istore_n (i := 2) (lv' := [(2, .int x3), (0, .ref (σ 2)), (1, .int a1), (3, .int a3)]) (q := 15) C dJ1_indexOf_4cfef_14 rfl (by decide) rfl rfl ?_
    refine cv_iload_n (i := 3) (q := 16) 3 C dJ1_indexOf_4cfef_15 rfl rfl rfl ?_
    refine cv_aload_n (i := 0) (q := 17) 1 C dJ1_indexOf_4cfef_16 rfl rfl rfl ?_
    refine cv_blen (q := 18) C dJ1_indexOf_4cfef_17 rfl ?_
    refine cv_mmin (q := 21) C (List.mem_of_getElem? (i := 5) rfl) (List.mem_of_getElem? (i := 6) rfl) (List.mem_of_getElem? (i := 3) rfl) (List.mem_of_getElem? (i := 7) rfl) (Nat.le_of_ble_eq_true rfl) (Nat.le_of_ble_eq_true rfl) dJ1_indexOf_4cfef_18 rfl (Nat.zero_le _) (Nat.zero_le _) ?_
    obtain ⟨x4, ex4, hm⟩ := cv_lt_s hm
    refine cv_topi ex4 ?_
    refine cv_istore_n (i := 3) (lv' := [(3, .int x4), (2, .int x3), (0, .ref (σ 2)), (1, .int a1)]) (q := 22) C dJ1_indexOf_4cfef_21 rfl (by decide) rfl rfl ?_
    refine cv_iload_n (i := 2) (q := 23) 1 C dJ1_indexOf_4cfef_22 rfl rfl rfl ?_
    refine cv_iload_n (i := 3) (q := 24) 0 C dJ1_indexOf_4cfef_23 rfl rfl rfl ?_
    refine cv_icmp_lt (tgt := 29) (q := 27) C dJ1_indexOf_4cfef_24 (by decide) rfl (fun h5 => ?_) (fun h5 => ?_)
    · have hm := cv_if_t h5 hm
      refine cv_aload_n (i := 0) (q := 30) 2 C dJ1_indexOf_4cfef_29 rfl rfl rfl ?_
      refine cv_iload_n (i := 1) (q := 31) 3 C dJ1_indexOf_4cfef_30 rfl rfl rfl ?_
      refine cv_iload_n (i := 2) (q := 32) 1 C dJ1_indexOf_4cfef_31 rfl rfl rfl ?_
      refine cv_iload_n (i := 3) (q := 33) 0 C dJ1_indexOf_4cfef_32 rfl rfl rfl ?_
      obtain ⟨r6, hr6, hm⟩ := cv_bd_s hm
      refine cv_goE (q := 36) C (KJ1_indexOfChar_4cfef (l := l) (σ := σ) (D := D) (cy := cy)     a1 x3 x4 hr6) (cv_rs (As := [.ref (σ 2), .int a1, .int x3, .int x4]) (st := []) (n := 4) C (KJ1_indexOfChar_4cfef (l := l) (σ := σ) (D := D) (cy := cy)     a1 x3 x4 hr6) gJ1_indexOf_4cfef_J1_indexOfChar_4cfef rfl ⟨rfl, rfl⟩ (by decide +kernel) rfl ⟨Nat.le_of_ble_eq_true rfl, Nat.le_of_ble_eq_true rfl⟩ rfl (Nat.le_of_ble_eq_true rfl) dJ1_indexOf_4cfef_33 ⟨Nat.zero_le _, Nat.zero_le _⟩) rfl ?_
      obtain rfl := Option.some.inj hm
      exact cv_iret C hr hk dJ1_indexOf_4cfef_36
    · have hm := cv_if_f h5 hm
      refine cv_iconst (v := -1) (q := 28) C dJ1_indexOf_4cfef_27 (by decide) rfl ?_
      obtain rfl := Option.some.inj hm
      exact cv_iret C hr hk dJ1_indexOf_4cfef_28
  · have hm := cv_if_t h2 hm
    refine cv_iconst (v := -1) (q := 8) C dJ1_indexOf_4cfef_7 (by decide) rfl ?_
    obtain rfl := Option.some.inj hm
    exact cv_iret C hr hk dJ1_indexOf_4cfef_8
def fJ0_indexOf_7cf53 (a1 : Int32) (a2 : Int32) : Option (Int32) :=
  cv_bd (fJ0_isLatin1_aae02 ) fun r1 =>
  cv_bd (fJ0_length_8abf5 ) fun r2 =>
  cv_bd (fJ1_indexOf_4cfef a1 a2 r2) fun r3 =>
  some r3
abbrev rJ0_indexOf_7cf53 : Room := { frames := 2, cells := 0, slots := 0, locals := 48 }
set_option maxHeartbeats 4000000 in
set_option maxRecDepth 100000 in
theorem KJ0_indexOf_7cf53 {l : Launch} {σ : Nat → Nat} {D : va_G} {cy : ClassId} (a1 : Int32) (a2 : Int32) {res : Int32} (hm : fJ0_indexOf_7cf53 a1 a2 = some res) : cv_M l yJ0_indexOf_7cf53 wsJ0_indexOf_7cf53 rJ0_indexOf_7cf53 σ D [(cy, .int)] [.ref (σ 1), .int a1, .int a2] [] (some (.int res)) [] := by
  unfold fJ0_indexOf_7cf53 at hm
  refine cv_M.of (own := RJ0) (by decide +kernel) rfl rfl (lv := [(0, .ref (σ 1)), (1, .int a1), (2, .int a2)]) rfl (Nat.le_of_ble_eq_true rfl) ?_
  intro p e s m args below meth c A C hr hk
  refine cv_aload_n (i := 0) (q := 1) 0 C dJ0_indexOf_7cf53_0 rfl rfl rfl ?_
  obtain ⟨r1, hr1, hm⟩ := cv_bd_s hm
  obtain rfl : (1 : Int32) = r1 := Option.some.inj hr1
  refine cv_goE (q := 4) C (KJ0_isLatin1_aae02 (l := l) (σ := σ) (D := D) (cy := cy)      hr1) (cv_rt (As := []) (st := []) (n := 0) C (KJ0_isLatin1_aae02 (l := l) (σ := σ) (D := D) (cy := cy)      hr1) gJ0_indexOf_7cf53_J0_isLatin1_aae02 rfl ⟨rfl, rfl⟩ (by decide +kernel) rfl ⟨Nat.le_of_ble_eq_true rfl, Nat.le_of_ble_eq_true rfl⟩ rfl (Nat.le_of_ble_eq_true rfl) dJ0_indexOf_7cf53_1 ⟨Nat.zero_le _, Nat.zero_le _⟩) rfl ?_
  refine cv_if_eq (tgt := 23) (q := 7) C dJ0_indexOf_7cf53_4 (by decide) rfl (fun h => absurd h (by decide)) (fun _ => ?_)
  refine cv_aload_n (i := 0) (q := 8) 0 C dJ0_indexOf_7cf53_7 rfl rfl rfl ?_
  refine cv_gtv (q := 11) C (List.mem_of_getElem? (i := 1) rfl) dJ0_indexOf_7cf53_8 rfl ?_
  refine cv_iload_n (i := 1) (q := 12) 1 C dJ0_indexOf_7cf53_11 rfl rfl rfl ?_
  refine cv_iload_n (i := 2) (q := 13) 2 C dJ0_indexOf_7cf53_12 rfl rfl rfl ?_
  refine cv_aload_n (i := 0) (q := 14) 0 C dJ0_indexOf_7cf53_13 rfl rfl rfl ?_
  obtain ⟨r2, hr2, hm⟩ := cv_bd_s hm
  refine cv_goE (q := 17) C (KJ0_length_8abf5 (l := l) (σ := σ) (D := D) (cy := cy)      hr2) (cv_rt (As := []) (st := [.int a2, .int a1, .ref (σ 2)]) (n := 0) C (KJ0_length_8abf5 (l := l) (σ := σ) (D := D) (cy := cy)      hr2) gJ0_indexOf_7cf53_J0_length_8abf5 rfl ⟨rfl, rfl⟩ (by decide +kernel) rfl ⟨Nat.le_of_ble_eq_true rfl, Nat.le_of_ble_eq_true rfl⟩ rfl (Nat.le_of_ble_eq_true rfl) dJ0_indexOf_7cf53_14 ⟨Nat.zero_le _, Nat.zero_le _⟩) rfl ?_
  obtain ⟨r3, hr3, hm⟩ := cv_bd_s hm
  refine cv_goE (q := 20) C (KJ1_indexOf_4cfef (l := l) (σ := σ) (D := D) (cy := cy)     a1 a2 r2 hr3) (cv_rs (As := [.ref (σ 2), .int a1, .int a2, .int r2]) (st := []) (n := 4) C (KJ1_indexOf_4cfef (l := l) (σ := σ) (D := D) (cy := cy)     a1 a2 r2 hr3) gJ0_indexOf_7cf53_J1_indexOf_4cfef rfl ⟨rfl, rfl⟩ (by decide +kernel) rfl ⟨Nat.le_of_ble_eq_true rfl, Nat.le_of_ble_eq_true rfl⟩ rfl (Nat.le_of_ble_eq_true rfl) dJ0_indexOf_7cf53_17 ⟨Nat.zero_le _, Nat.zero_le _⟩) rfl ?_
  refine cv_goto (tgt := 36) C dJ0_indexOf_7cf53_20 (by decide) ?_
  obtain rfl := Option.some.inj hm
  exact cv_iret C hr hk dJ0_indexOf_7cf53_36
def fJ0_indexOf_0f7a4 (a1 : Int32) : Option (Int32) :=
  cv_bd (fJ0_indexOf_7cf53 a1 (0 : Int32)) fun r1 =>
  some r1
abbrev rJ0_indexOf_0f7a4 : Room := { frames := 3, cells := 0, slots := 0, locals := 70 }
set_option maxHeartbeats 4000000 in
set_option maxRecDepth 100000 in
theorem KJ0_indexOf_0f7a4 {l : Launch} {σ : Nat → Nat} {D : va_G} {cy : ClassId} (a1 : Int32) {res : Int32} (hm : fJ0_indexOf_0f7a4 a1 = some res) : cv_M l yJ0_indexOf_0f7a4 wsJ0_indexOf_0f7a4 rJ0_indexOf_0f7a4 σ D [(cy, .int)] [.ref (σ 1), .int a1] [] (some (.int res)) [] := by
  unfold fJ0_indexOf_0f7a4 at hm
  refine cv_M.of (own := RJ0) (by decide +kernel) rfl rfl (lv := [(0, .ref (σ 1)), (1, .int a1)]) rfl (Nat.le_of_ble_eq_true rfl) ?_
  intro p e s m args below meth c A C hr hk
  refine cv_aload_n (i := 0) (q := 1) 0 C dJ0_indexOf_0f7a4_0 rfl rfl rfl ?_
  refine cv_iload_n (i := 1) (q := 2) 1 C dJ0_indexOf_0f7a4_1 rfl rfl rfl ?_
  refine cv_iconst (v := 0) (q := 3) C dJ0_indexOf_0f7a4_2 (by decide) rfl ?_
  obtain ⟨r1, hr1, hm⟩ := cv_bd_s hm
  refine cv_goE (q := 6) C (KJ0_indexOf_7cf53 (l := l) (σ := σ) (D := D) (cy := cy)     a1 (0 : Int32) hr1) (cv_rt (As := [.int a1, .int (0 : Int32)]) (st := []) (n := 2) C (KJ0_indexOf_7cf53 (l := l) (σ := σ) (D := D) (cy := cy)     a1 (0 : Int32) hr1) gJ0_indexOf_0f7a4_J0_indexOf_7cf53 rfl ⟨rfl, rfl⟩ (by decide +kernel) rfl ⟨Nat.le_of_ble_eq_true rfl, Nat.le_of_ble_eq_true rfl⟩ rfl (Nat.le_of_ble_eq_true rfl) dJ0_indexOf_0f7a4_3 ⟨Nat.zero_le _, Nat.zero_le _⟩) rfl ?_
  obtain rfl := Option.some.inj hm
  exact cv_iret C hr hk dJ0_indexOf_0f7a4_6
def fX1_kindOf (S : SX1) (a1 : Int32) : Option (Int32) :=
  cv_bd (fX1_code S ((5 : Int32) + (a1 * (6 : Int32)))) fun r1 =>
  cv_bd (fJ0_indexOf_0f7a4 (((r1).toUInt32 % 65536).toInt32)) fun r2 =>
  some r2
abbrev rX1_kindOf : Room := { frames := 4, cells := 0, slots := 0, locals := 91 }
set_option maxHeartbeats 4000000 in
set_option maxRecDepth 100000 in
theorem KX1_kindOf {l : Launch} {σ : Nat → Nat} {D : va_G} {cy : ClassId} (q : Nat → Nat) (S : SX1) (a1 : Int32) {res : Int32} (hm : fX1_kindOf S a1 = some res) : cv_M l yX1_kindOf wsX1_kindOf rX1_kindOf σ D [(cy, .int)] [.ref (q 0), .int a1] (wX1 q cy S) (some (.int res)) (wX1 q cy S) := by
  unfold fX1_kindOf at hm
  refine cv_M.of (own := RX1) (by decide +kernel) rfl rfl (lv := [(0, .ref (q 0)), (1, .int a1)]) rfl (Nat.le_of_ble_eq_true rfl) ?_
  intro p e s m args below meth c A C hr hk
  refine cv_ldcs (q := 2) C dX1_kindOf_0 rfl ?_
  refine cv_aload_n (i := 0) (q := 3) 0 C dX1_kindOf_2 rfl rfl rfl ?_
  refine cv_iconst (v := 5) (q := 4) C dX1_kindOf_3 (by decide) rfl ?_
  refine cv_iload_n (i := 1) (q := 5) 1 C dX1_kindOf_4 rfl rfl rfl ?_
  refine cv_bipush (v := 6) (q := 7) C dX1_kindOf_5 (by decide) rfl ?_
  refine cv_imul (q := 8) C dX1_kindOf_7 rfl ?_
  refine cv_iadd (q := 9) C dX1_kindOf_8 rfl ?_
  obtain ⟨r1, hr1, hm⟩ := cv_bd_s hm
  refine cv_goW (q := 12) C (KX1_code (l := l) (σ := σ) (D := D) (cy := cy)  q  S ((5 : Int32) + (a1 * (6 : Int32))) hr1) (cv_rv (As := [.int ((5 : Int32) + (a1 * (6 : Int32)))]) (st := [.ref (σ 1)]) (n := 1) (q0 := 0) (ci := 1) C (KX1_code (l := l) (σ := σ) (D := D) (cy := cy)  q  S ((5 : Int32) + (a1 * (6 : Int32))) hr1) rfl rfl gX1_kindOf_X1_code rfl ⟨rfl, rfl⟩ (by decide +kernel) rfl ⟨Nat.le_of_ble_eq_true rfl, Nat.le_of_ble_eq_true rfl⟩ rfl (Nat.le_of_ble_eq_true rfl) dX1_kindOf_9 ⟨Nat.zero_le _, Nat.zero_le _⟩) rfl ?_
  refine cv_i2c (q := 13) C dX1_kindOf_12 rfl ?_
  obtain ⟨r2, hr2, hm⟩ := cv_bd_s hm
  refine cv_goE (q := 16) C (KJ0_indexOf_0f7a4 (l := l) (σ := σ) (D := D) (cy := cy)     (((r1).toUInt32 % 65536).toInt32) hr2) (cv_rt (As := [.int ((r1).toUInt32 % 65536).toInt32]) (st := []) (n := 1) C (KJ0_indexOf_0f7a4 (l := l) (σ := σ) (D := D) (cy := cy)     (((r1).toUInt32 % 65536).toInt32) hr2) gX1_kindOf_J0_indexOf_0f7a4 rfl ⟨rfl, rfl⟩ (by decide +kernel) rfl ⟨Nat.le_of_ble_eq_true rfl, Nat.le_of_ble_eq_true rfl⟩ rfl (Nat.le_of_ble_eq_true rfl) dX1_kindOf_13 ⟨Nat.zero_le _, Nat.zero_le _⟩) rfl ?_
  obtain rfl := Option.some.inj hm
  exact cv_iret C hr hk dX1_kindOf_16
def fX1_isNewKey_L9 (S : SX1) (u1 : Int32) (u2 : Int32) : Nat → Int32 → Option (Int32)
  | 0, _ => none
  | n + 1, y3 =>
    if u1 ≤ y3 then
      (
      some (1 : Int32)
      )
    else
      (
      cv_lt (((5 : Int32) + (y3 * (6 : Int32)))) fun x3 =>
      cv_bd (fX1_code S (x3 + (1 : Int32))) fun r4 =>
      cv_bd (fX1_code S (u2 + (1 : Int32))) fun r5 =>
      if r4 = r5 then
        (
        cv_bd (fX1_code S (x3 + (2 : Int32))) fun r8 =>
        cv_bd (fX1_code S (u2 + (2 : Int32))) fun r9 =>
        if r8 = r9 then
          (
          some (0 : Int32)
          )
        else
          (
          cv_lt (y3 + (1 : Int32)) fun x11 =>
          fX1_isNewKey_L9 S u1 u2 n x11
          )
        )
      else
        (
        cv_lt (y3 + (1 : Int32)) fun x7 =>
        fX1_isNewKey_L9 S u1 u2 n x7
        )
      )
def fX1_isNewKey (S : SX1) (a1 : Int32) : Option (Int32) :=
  cv_lt (((5 : Int32) + (a1 * (6 : Int32)))) fun x1 =>
  fX1_isNewKey_L9 S a1 x1 256 (0 : Int32)
abbrev rX1_isNewKey : Room := { frames := 1, cells := 0, slots := 0, locals := 21 }
set_option maxHeartbeats 4000000 in
set_option maxRecDepth 100000 in
theorem vX1_isNewKey_L9 {p : Program} {l : Launch} {e : Env} {s : State} {m : MethodId} {args : Array Value} {below : List Frame} {meth : Method} {c : Code} {σ : Nat → Nat} {D : va_G} {A : Nat → Prop} {cy : ClassId} (q : Nat → Nat) (S : SX1) (u1 : Int32) (u2 : Int32) (C : cv_C p s m args c cX1_isNewKey 5 RX1 wsX1_isNewKey σ D [(cy, .int)] A) (hr : meth.sig.returnType = some .boolean) (hk : meth.locks = false) {res : Int32} : ∀ (n : Nat) (y3 : Int32), fX1_isNewKey_L9 S u1 u2 n y3 = some res → cv_V p l e rX1_isNewKey s m args below meth c 5 D A (cv_Q below (some (.int res)) (wX1 q cy S) D [(cy, .int)] A args s) 0 0 (wX1 q cy S) 9 [(0, .ref (q 0)), (1, .int u1), (2, .int u2), (3, .int y3)] [] := by
  intro n
  induction n with
  | zero => intro y3 hm; cases hm
  | succ n ih =>
    intro y3 hm
    have hm : fX1_isNewKey_L9 S u1 u2 (n + 1) y3 = some res := hm
    unfold fX1_isNewKey_L9 at hm
    refine cv_iload_n (i := 3) (q := 10) 3 C dX1_isNewKey_9 rfl rfl rfl ?_
    refine cv_iload_n (i := 1) (q := 11) 1 C dX1_isNewKey_10 rfl rfl rfl ?_
    refine cv_icmp_ge (tgt := 66) (q := 14) C dX1_isNewKey_11 (by decide) rfl (fun h2 => ?_) (fun h2 => ?_)
    · have hm := cv_if_t h2 hm
      refine cv_iconst (v := 1) (q := 67) C dX1_isNewKey_66 (by decide) rfl ?_
      obtain rfl := Option.some.inj hm
      exact cv_zret C hr hk (cv_bool (Or.inr rfl)) dX1_isNewKey_67
    · have hm := cv_if_f h2 hm
      refine cv_iconst (v := 5) (q := 15) C dX1_isNewKey_14 (by decide) rfl ?_
      refine cv_iload_n (i := 3) (q := 16) 3 C dX1_isNewKey_15 rfl rfl rfl ?_
      refine cv_bipush (v := 6) (q := 18) C dX1_isNewKey_16 (by decide) rfl ?_
      refine cv_imul (q := 19) C dX1_isNewKey_18 rfl ?_
      refine cv_iadd (q := 20) C dX1_isNewKey_19 rfl ?_
      obtain ⟨x3, ex3, hm⟩ := cv_lt_s hm
      refine cv_topi ex3 ?_
      refine cv_istore (i := 4) (lv' := [(4, .int x3), (0, .ref (q 0)), (1, .int u1), (2, .int u2), (3, .int y3)]) (q := 22) C dX1_isNewKey_20 (by decide) rfl rfl ?_
      refine cv_aload_n (i := 0) (q := 23) 1 C dX1_isNewKey_22 rfl rfl rfl ?_
      refine cv_iload (i := 4) (q := 25) 0 C dX1_isNewKey_23 rfl rfl ?_
      refine cv_iconst (v := 1) (q := 26) C dX1_isNewKey_25 (by decide) rfl ?_
      refine cv_iadd (q := 27) C dX1_isNewKey_26 rfl ?_
      obtain ⟨r4, hr4, hm⟩ := cv_bd_s hm
      refine cv_goW (q := 30) C (KX1_code (l := l) (σ := σ) (D := D) (cy := cy)  q  S (x3 + (1 : Int32)) hr4) (cv_rv (As := [.int (x3 + (1 : Int32))]) (st := []) (n := 1) (q0 := 0) (ci := 1) C (KX1_code (l := l) (σ := σ) (D := D) (cy := cy)  q  S (x3 + (1 : Int32)) hr4) rfl rfl gX1_isNewKey_X1_code rfl ⟨rfl, rfl⟩ (by decide +kernel) rfl ⟨Nat.le_of_ble_eq_true rfl, Nat.le_of_ble_eq_true rfl⟩ rfl (Nat.le_of_ble_eq_true rfl) dX1_isNewKey_27 ⟨Nat.zero_le _, Nat.zero_le _⟩) rfl ?_
      refine cv_aload_n (i := 0) (q := 31) 1 C dX1_isNewKey_30 rfl rfl rfl ?_
      refine cv_iload_n (i := 2) (q := 32) 3 C dX1_isNewKey_31 rfl rfl rfl ?_
      refine cv_iconst (v := 1) (q := 33) C dX1_isNewKey_32 (by decide) rfl ?_
      refine cv_iadd (q := 34) C dX1_isNewKey_33 rfl ?_
      obtain ⟨r5, hr5, hm⟩ := cv_bd_s hm
      refine cv_goW (q := 37) C (KX1_code (l := l) (σ := σ) (D := D) (cy := cy)  q  S (u2 + (1 : Int32)) hr5) (cv_rv (As := [.int (u2 + (1 : Int32))]) (st := [.int r4]) (n := 1) (q0 := 0) (ci := 1) C (KX1_code (l := l) (σ := σ) (D := D) (cy := cy)  q  S (u2 + (1 : Int32)) hr5) rfl rfl gX1_isNewKey_X1_code rfl ⟨rfl, rfl⟩ (by decide +kernel) rfl ⟨Nat.le_of_ble_eq_true rfl, Nat.le_of_ble_eq_true rfl⟩ rfl (Nat.le_of_ble_eq_true rfl) dX1_isNewKey_34 ⟨Nat.zero_le _, Nat.zero_le _⟩) rfl ?_
      refine cv_icmp_ne (tgt := 60) (q := 40) C dX1_isNewKey_37 (by decide) rfl (fun h6 => ?_) (fun h6 => ?_)
      · have hm := cv_if_f h6 hm
        obtain ⟨x7, ex7, hm⟩ := cv_lt_s hm
        refine cv_iinc (v := x7) (lv' := [(3, .int x7), (4, .int x3), (0, .ref (q 0)), (1, .int u1), (2, .int u2)]) (q := 63) 4 C dX1_isNewKey_60 rfl (by rw [ex7]; rfl) (by decide) rfl rfl ?_
        refine cv_goto (tgt := 9) C dX1_isNewKey_63 (by decide) ?_
        refine cv_sub [2, 3, 4, 0] rfl ?_
        exact ih x7 hm
      · have hm := cv_if_t h6 hm
        refine cv_aload_n (i := 0) (q := 41) 1 C dX1_isNewKey_40 rfl rfl rfl ?_
        refine cv_iload (i := 4) (q := 43) 0 C dX1_isNewKey_41 rfl rfl ?_
        refine cv_iconst (v := 2) (q := 44) C dX1_isNewKey_43 (by decide) rfl ?_
        refine cv_iadd (q := 45) C dX1_isNewKey_44 rfl ?_
        obtain ⟨r8, hr8, hm⟩ := cv_bd_s hm
        refine cv_goW (q := 48) C (KX1_code (l := l) (σ := σ) (D := D) (cy := cy)  q  S (x3 + (2 : Int32)) hr8) (cv_rv (As := [.int (x3 + (2 : Int32))]) (st := []) (n := 1) (q0 := 0) (ci := 1) C (KX1_code (l := l) (σ := σ) (D := D) (cy := cy)  q  S (x3 + (2 : Int32)) hr8) rfl rfl gX1_isNewKey_X1_code rfl ⟨rfl, rfl⟩ (by decide +kernel) rfl ⟨Nat.le_of_ble_eq_true rfl, Nat.le_of_ble_eq_true rfl⟩ rfl (Nat.le_of_ble_eq_true rfl) dX1_isNewKey_45 ⟨Nat.zero_le _, Nat.zero_le _⟩) rfl ?_
        refine cv_aload_n (i := 0) (q := 49) 1 C dX1_isNewKey_48 rfl rfl rfl ?_
        refine cv_iload_n (i := 2) (q := 50) 3 C dX1_isNewKey_49 rfl rfl rfl ?_
        refine cv_iconst (v := 2) (q := 51) C dX1_isNewKey_50 (by decide) rfl ?_
        refine cv_iadd (q := 52) C dX1_isNewKey_51 rfl ?_
        obtain ⟨r9, hr9, hm⟩ := cv_bd_s hm
        refine cv_goW (q := 55) C (KX1_code (l := l) (σ := σ) (D := D) (cy := cy)  q  S (u2 + (2 : Int32)) hr9) (cv_rv (As := [.int (u2 + (2 : Int32))]) (st := [.int r8]) (n := 1) (q0 := 0) (ci := 1) C (KX1_code (l := l) (σ := σ) (D := D) (cy := cy)  q  S (u2 + (2 : Int32)) hr9) rfl rfl gX1_isNewKey_X1_code rfl ⟨rfl, rfl⟩ (by decide +kernel) rfl ⟨Nat.le_of_ble_eq_true rfl, Nat.le_of_ble_eq_true rfl⟩ rfl (Nat.le_of_ble_eq_true rfl) dX1_isNewKey_52 ⟨Nat.zero_le _, Nat.zero_le _⟩) rfl ?_
        refine cv_icmp_ne (tgt := 60) (q := 58) C dX1_isNewKey_55 (by decide) rfl (fun h10 => ?_) (fun h10 => ?_)
        · have hm := cv_if_f h10 hm
          obtain ⟨x11, ex11, hm⟩ := cv_lt_s hm
          refine cv_iinc (v := x11) (lv' := [(3, .int x11), (4, .int x3), (0, .ref (q 0)), (1, .int u1), (2, .int u2)]) (q := 63) 4 C dX1_isNewKey_60 rfl (by rw [ex11]; rfl) (by decide) rfl rfl ?_
          refine cv_goto (tgt := 9) C dX1_isNewKey_63 (by decide) ?_
          refine cv_sub [2, 3, 4, 0] rfl ?_
          exact ih x11 hm
        · have hm := cv_if_t h10 hm
          refine cv_iconst (v := 0) (q := 59) C dX1_isNewKey_58 (by decide) rfl ?_
          obtain rfl := Option.some.inj hm
          exact cv_zret C hr hk (cv_bool (Or.inl rfl)) dX1_isNewKey_59
set_option maxHeartbeats 4000000 in
set_option maxRecDepth 100000 in
theorem KX1_isNewKey {l : Launch} {σ : Nat → Nat} {D : va_G} {cy : ClassId} (q : Nat → Nat) (S : SX1) (a1 : Int32) {res : Int32} (hm : fX1_isNewKey S a1 = some res) : cv_M l yX1_isNewKey wsX1_isNewKey rX1_isNewKey σ D [(cy, .int)] [.ref (q 0), .int a1] (wX1 q cy S) (some (.int res)) (wX1 q cy S) := by
  unfold fX1_isNewKey at hm
  refine cv_M.of (own := RX1) (by decide +kernel) rfl rfl (lv := [(0, .ref (q 0)), (1, .int a1)]) rfl (Nat.le_of_ble_eq_true rfl) ?_
  intro p e s m args below meth c A C hr hk
  refine cv_iconst (v := 5) (q := 1) C dX1_isNewKey_0 (by decide) rfl ?_
  refine cv_iload_n (i := 1) (q := 2) 1 C dX1_isNewKey_1 rfl rfl rfl ?_
  refine cv_bipush (v := 6) (q := 4) C dX1_isNewKey_2 (by decide) rfl ?_
  refine cv_imul (q := 5) C dX1_isNewKey_4 rfl ?_
  refine cv_iadd (q := 6) C dX1_isNewKey_5 rfl ?_
  obtain ⟨x1, ex1, hm⟩ := cv_lt_s hm
  refine cv_topi ex1 ?_
  refine cv_istore_n (i := 2) (lv' := [(2, .int x1), (0, .ref (q 0)), (1, .int a1)]) (q := 7) C dX1_isNewKey_6 rfl (by decide) rfl rfl ?_
  refine cv_iconst (v := 0) (q := 8) C dX1_isNewKey_7 (by decide) rfl ?_
  refine cv_istore_n (i := 3) (lv' := [(3, .int (0 : Int32)), (2, .int x1), (0, .ref (q 0)), (1, .int a1)]) (q := 9) C dX1_isNewKey_8 rfl (by decide) rfl rfl ?_
  refine cv_sub [2, 3, 1, 0] rfl ?_
  exact vX1_isNewKey_L9 q S a1 x1 C hr hk 256 (0 : Int32) hm
def fX1_fitsEntry (S : SX1) (a1 : Int32) (a2 : Int32) (a3 : Int32) : Option (Int32) :=
  if a2 = 0 then
    (
    cv_bd (fX1_kindOf S a1) fun r2 =>
    if r2 < 0 then
      (
      some (0 : Int32)
      )
    else
      (
      some (1 : Int32)
      )
    )
  else
    (
    if a2 = 1 then
      (
      cv_bd (fX1_isDigit S a3) fun r5 =>
      cv_gd (r5 = 0 ∨ r5 = 1) <|
      some r5
      )
    else
      (
      if a2 = 2 then
        (
        cv_bd (fX1_isDigit S a3) fun r8 =>
        if r8 = 0 then
          (
          some (0 : Int32)
          )
        else
          (
          cv_bd (fX1_isNewKey S a1) fun r10 =>
          if r10 = 0 then
            (
            some (0 : Int32)
            )
          else
            (
            some (1 : Int32)
            )
          )
        )
      else
        (
        if a2 = 3 then
          (
          cv_bd (fX1_code S a3) fun r13 =>
          if r13 = (61 : Int32) then
            (
            some (1 : Int32)
            )
          else
            (
            some (0 : Int32)
            )
          )
        else
          (
          if a2 = 4 then
            (
            cv_bd (fX1_isDigit S a3) fun r16 =>
            cv_gd (r16 = 0 ∨ r16 = 1) <|
            some r16
            )
          else
            (
            if a2 = 5 then
              (
              cv_bd (fX1_code S a3) fun r19 =>
              if r19 = (44 : Int32) then
                (
                if (7 : Int32) ≤ a1 then
                  (
                  some (0 : Int32)
                  )
                else
                  (
                  some (1 : Int32)
                  )
                )
              else
                (
                some (0 : Int32)
                )
              )
            else
              (
              cv_bd (fX1_isDigit S a3) fun r22 =>
              cv_gd (r22 = 0 ∨ r22 = 1) <|
              some r22
              )
            )
          )
        )
      )
    )
abbrev rX1_fitsEntry : Room := { frames := 5, cells := 0, slots := 0, locals := 112 }
set_option maxHeartbeats 4000000 in
set_option maxRecDepth 100000 in
theorem KX1_fitsEntry {l : Launch} {σ : Nat → Nat} {D : va_G} {cy : ClassId} (q : Nat → Nat) (S : SX1) (a1 : Int32) (a2 : Int32) (a3 : Int32) {res : Int32} (hm : fX1_fitsEntry S a1 a2 a3 = some res) : cv_M l yX1_fitsEntry wsX1_fitsEntry rX1_fitsEntry σ D [(cy, .int)] [.ref (q 0), .int a1, .int a2, .int a3] (wX1 q cy S) (some (.int res)) (wX1 q cy S) := by
  unfold fX1_fitsEntry at hm
  refine cv_M.of (own := RX1) (by decide +kernel) rfl rfl (lv := [(0, .ref (q 0)), (1, .int a1), (2, .int a2), (3, .int a3)]) rfl (Nat.le_of_ble_eq_true rfl) ?_
  intro p e s m args below meth c A C hr hk
  refine cv_iload_n (i := 2) (q := 1) 2 C dX1_fitsEntry_0 rfl rfl rfl ?_
  by_cases h1 : a2 = 0
  · have hm := cv_if_t h1 hm
    refine cv_tin (tgt := 40) 0 C dX1_fitsEntry_1 h1 (by decide) (by decide) rfl (by decide) ?_
    refine cv_aload_n (i := 0) (q := 41) 0 C dX1_fitsEntry_40 rfl rfl rfl ?_
    refine cv_iload_n (i := 1) (q := 42) 1 C dX1_fitsEntry_41 rfl rfl rfl ?_
    obtain ⟨r2, hr2, hm⟩ := cv_bd_s hm
    refine cv_goW (q := 45) C (KX1_kindOf (l := l) (σ := σ) (D := D) (cy := cy)  q  S a1 hr2) (cv_rv (As := [.int a1]) (st := []) (n := 1) (q0 := 0) (ci := 1) C (KX1_kindOf (l := l) (σ := σ) (D := D) (cy := cy)  q  S a1 hr2) rfl rfl gX1_fitsEntry_X1_kindOf rfl ⟨rfl, rfl⟩ (by decide +kernel) rfl ⟨Nat.le_of_ble_eq_true rfl, Nat.le_of_ble_eq_true rfl⟩ rfl (Nat.le_of_ble_eq_true rfl) dX1_fitsEntry_42 ⟨Nat.zero_le _, Nat.zero_le _⟩) rfl ?_
    refine cv_if_lt (tgt := 52) (q := 48) C dX1_fitsEntry_45 (by decide) rfl (fun h3 => ?_) (fun h3 => ?_)
    · have hm := cv_if_t h3 hm
      refine cv_iconst (v := 0) (q := 53) C dX1_fitsEntry_52 (by decide) rfl ?_
      obtain rfl := Option.some.inj hm
      exact cv_zret C hr hk (cv_bool (Or.inl rfl)) dX1_fitsEntry_53
    · have hm := cv_if_f h3 hm
      refine cv_iconst (v := 1) (q := 49) C dX1_fitsEntry_48 (by decide) rfl ?_
      refine cv_goto (tgt := 53) C dX1_fitsEntry_49 (by decide) ?_
      obtain rfl := Option.some.inj hm
      exact cv_zret C hr hk (cv_bool (Or.inr rfl)) dX1_fitsEntry_53
  · have hm := cv_if_f h1 hm
    by_cases h4 : a2 = 1
    · have hm := cv_if_t h4 hm
      refine cv_tin (tgt := 114) 1 C dX1_fitsEntry_1 h4 (by decide) (by decide) rfl (by decide) ?_
      refine cv_aload_n (i := 0) (q := 115) 0 C dX1_fitsEntry_114 rfl rfl rfl ?_
      refine cv_iload_n (i := 3) (q := 116) 3 C dX1_fitsEntry_115 rfl rfl rfl ?_
      obtain ⟨r5, hr5, hm⟩ := cv_bd_s hm
      refine cv_goW (q := 119) C (KX1_isDigit (l := l) (σ := σ) (D := D) (cy := cy)  q  S a3 hr5) (cv_rv (As := [.int a3]) (st := []) (n := 1) (q0 := 0) (ci := 1) C (KX1_isDigit (l := l) (σ := σ) (D := D) (cy := cy)  q  S a3 hr5) rfl rfl gX1_fitsEntry_X1_isDigit rfl ⟨rfl, rfl⟩ (by decide +kernel) rfl ⟨Nat.le_of_ble_eq_true rfl, Nat.le_of_ble_eq_true rfl⟩ rfl (Nat.le_of_ble_eq_true rfl) dX1_fitsEntry_116 ⟨Nat.zero_le _, Nat.zero_le _⟩) rfl ?_
      obtain ⟨g6, hm⟩ := cv_gd_s hm
      obtain rfl := Option.some.inj hm
      exact cv_zret C hr hk (cv_bool g6) dX1_fitsEntry_119
    · have hm := cv_if_f h4 hm
      by_cases h7 : a2 = 2
      · have hm := cv_if_t h7 hm
        refine cv_tin (tgt := 54) 2 C dX1_fitsEntry_1 h7 (by decide) (by decide) rfl (by decide) ?_
        refine cv_aload_n (i := 0) (q := 55) 0 C dX1_fitsEntry_54 rfl rfl rfl ?_
        refine cv_iload_n (i := 3) (q := 56) 3 C dX1_fitsEntry_55 rfl rfl rfl ?_
        obtain ⟨r8, hr8, hm⟩ := cv_bd_s hm
        refine cv_goW (q := 59) C (KX1_isDigit (l := l) (σ := σ) (D := D) (cy := cy)  q  S a3 hr8) (cv_rv (As := [.int a3]) (st := []) (n := 1) (q0 := 0) (ci := 1) C (KX1_isDigit (l := l) (σ := σ) (D := D) (cy := cy)  q  S a3 hr8) rfl rfl gX1_fitsEntry_X1_isDigit rfl ⟨rfl, rfl⟩ (by decide +kernel) rfl ⟨Nat.le_of_ble_eq_true rfl, Nat.le_of_ble_eq_true rfl⟩ rfl (Nat.le_of_ble_eq_true rfl) dX1_fitsEntry_56 ⟨Nat.zero_le _, Nat.zero_le _⟩) rfl ?_
        refine cv_if_eq (tgt := 74) (q := 62) C dX1_fitsEntry_59 (by decide) rfl (fun h9 => ?_) (fun h9 => ?_)
        · have hm := cv_if_t h9 hm
          refine cv_iconst (v := 0) (q := 75) C dX1_fitsEntry_74 (by decide) rfl ?_
          obtain rfl := Option.some.inj hm
          exact cv_zret C hr hk (cv_bool (Or.inl rfl)) dX1_fitsEntry_75
        · have hm := cv_if_f h9 hm
          refine cv_aload_n (i := 0) (q := 63) 0 C dX1_fitsEntry_62 rfl rfl rfl ?_
          refine cv_iload_n (i := 1) (q := 64) 1 C dX1_fitsEntry_63 rfl rfl rfl ?_
          obtain ⟨r10, hr10, hm⟩ := cv_bd_s hm
          refine cv_goW (q := 67) C (KX1_isNewKey (l := l) (σ := σ) (D := D) (cy := cy)  q  S a1 hr10) (cv_rv (As := [.int a1]) (st := []) (n := 1) (q0 := 0) (ci := 1) C (KX1_isNewKey (l := l) (σ := σ) (D := D) (cy := cy)  q  S a1 hr10) rfl rfl gX1_fitsEntry_X1_isNewKey rfl ⟨rfl, rfl⟩ (by decide +kernel) rfl ⟨Nat.le_of_ble_eq_true rfl, Nat.le_of_ble_eq_true rfl⟩ rfl (Nat.le_of_ble_eq_true rfl) dX1_fitsEntry_64 ⟨Nat.zero_le _, Nat.zero_le _⟩) rfl ?_
          refine cv_if_eq (tgt := 74) (q := 70) C dX1_fitsEntry_67 (by decide) rfl (fun h11 => ?_) (fun h11 => ?_)
          · have hm := cv_if_t h11 hm
            refine cv_iconst (v := 0) (q := 75) C dX1_fitsEntry_74 (by decide) rfl ?_
            obtain rfl := Option.some.inj hm
            exact cv_zret C hr hk (cv_bool (Or.inl rfl)) dX1_fitsEntry_75
          · have hm := cv_if_f h11 hm
            refine cv_iconst (v := 1) (q := 71) C dX1_fitsEntry_70 (by decide) rfl ?_
            refine cv_goto (tgt := 75) C dX1_fitsEntry_71 (by decide) ?_
            obtain rfl := Option.some.inj hm
            exact cv_zret C hr hk (cv_bool (Or.inr rfl)) dX1_fitsEntry_75
      · have hm := cv_if_f h7 hm
        by_cases h12 : a2 = 3
        · have hm := cv_if_t h12 hm
          refine cv_tin (tgt := 76) 3 C dX1_fitsEntry_1 h12 (by decide) (by decide) rfl (by decide) ?_
          refine cv_aload_n (i := 0) (q := 77) 0 C dX1_fitsEntry_76 rfl rfl rfl ?_
          refine cv_iload_n (i := 3) (q := 78) 3 C dX1_fitsEntry_77 rfl rfl rfl ?_
          obtain ⟨r13, hr13, hm⟩ := cv_bd_s hm
          refine cv_goW (q := 81) C (KX1_code (l := l) (σ := σ) (D := D) (cy := cy)  q  S a3 hr13) (cv_rv (As := [.int a3]) (st := []) (n := 1) (q0 := 0) (ci := 1) C (KX1_code (l := l) (σ := σ) (D := D) (cy := cy)  q  S a3 hr13) rfl rfl gX1_fitsEntry_X1_code rfl ⟨rfl, rfl⟩ (by decide +kernel) rfl ⟨Nat.le_of_ble_eq_true rfl, Nat.le_of_ble_eq_true rfl⟩ rfl (Nat.le_of_ble_eq_true rfl) dX1_fitsEntry_78 ⟨Nat.zero_le _, Nat.zero_le _⟩) rfl ?_
          refine cv_bipush (v := 61) (q := 83) C dX1_fitsEntry_81 (by decide) rfl ?_
          refine cv_icmp_ne (tgt := 90) (q := 86) C dX1_fitsEntry_83 (by decide) rfl (fun h14 => ?_) (fun h14 => ?_)
          · have hm := cv_if_f h14 hm
            refine cv_iconst (v := 0) (q := 91) C dX1_fitsEntry_90 (by decide) rfl ?_
            obtain rfl := Option.some.inj hm
            exact cv_zret C hr hk (cv_bool (Or.inl rfl)) dX1_fitsEntry_91
          · have hm := cv_if_t h14 hm
            refine cv_iconst (v := 1) (q := 87) C dX1_fitsEntry_86 (by decide) rfl ?_
            refine cv_goto (tgt := 91) C dX1_fitsEntry_87 (by decide) ?_
            obtain rfl := Option.some.inj hm
            exact cv_zret C hr hk (cv_bool (Or.inr rfl)) dX1_fitsEntry_91
        · have hm := cv_if_f h12 hm
          by_cases h15 : a2 = 4
          · have hm := cv_if_t h15 hm
            refine cv_tin (tgt := 114) 4 C dX1_fitsEntry_1 h15 (by decide) (by decide) rfl (by decide) ?_
            refine cv_aload_n (i := 0) (q := 115) 0 C dX1_fitsEntry_114 rfl rfl rfl ?_
            refine cv_iload_n (i := 3) (q := 116) 3 C dX1_fitsEntry_115 rfl rfl rfl ?_
            obtain ⟨r16, hr16, hm⟩ := cv_bd_s hm
            refine cv_goW (q := 119) C (KX1_isDigit (l := l) (σ := σ) (D := D) (cy := cy)  q  S a3 hr16) (cv_rv (As := [.int a3]) (st := []) (n := 1) (q0 := 0) (ci := 1) C (KX1_isDigit (l := l) (σ := σ) (D := D) (cy := cy)  q  S a3 hr16) rfl rfl gX1_fitsEntry_X1_isDigit rfl ⟨rfl, rfl⟩ (by decide +kernel) rfl ⟨Nat.le_of_ble_eq_true rfl, Nat.le_of_ble_eq_true rfl⟩ rfl (Nat.le_of_ble_eq_true rfl) dX1_fitsEntry_116 ⟨Nat.zero_le _, Nat.zero_le _⟩) rfl ?_
            obtain ⟨g17, hm⟩ := cv_gd_s hm
            obtain rfl := Option.some.inj hm
            exact cv_zret C hr hk (cv_bool g17) dX1_fitsEntry_119
          · have hm := cv_if_f h15 hm
            by_cases h18 : a2 = 5
            · have hm := cv_if_t h18 hm
              refine cv_tin (tgt := 92) 5 C dX1_fitsEntry_1 h18 (by decide) (by decide) rfl (by decide) ?_
              refine cv_aload_n (i := 0) (q := 93) 0 C dX1_fitsEntry_92 rfl rfl rfl ?_
              refine cv_iload_n (i := 3) (q := 94) 3 C dX1_fitsEntry_93 rfl rfl rfl ?_
              obtain ⟨r19, hr19, hm⟩ := cv_bd_s hm
              refine cv_goW (q := 97) C (KX1_code (l := l) (σ := σ) (D := D) (cy := cy)  q  S a3 hr19) (cv_rv (As := [.int a3]) (st := []) (n := 1) (q0 := 0) (ci := 1) C (KX1_code (l := l) (σ := σ) (D := D) (cy := cy)  q  S a3 hr19) rfl rfl gX1_fitsEntry_X1_code rfl ⟨rfl, rfl⟩ (by decide +kernel) rfl ⟨Nat.le_of_ble_eq_true rfl, Nat.le_of_ble_eq_true rfl⟩ rfl (Nat.le_of_ble_eq_true rfl) dX1_fitsEntry_94 ⟨Nat.zero_le _, Nat.zero_le _⟩) rfl ?_
              refine cv_bipush (v := 44) (q := 99) C dX1_fitsEntry_97 (by decide) rfl ?_
              refine cv_icmp_ne (tgt := 112) (q := 102) C dX1_fitsEntry_99 (by decide) rfl (fun h20 => ?_) (fun h20 => ?_)
              · have hm := cv_if_f h20 hm
                refine cv_iconst (v := 0) (q := 113) C dX1_fitsEntry_112 (by decide) rfl ?_
                obtain rfl := Option.some.inj hm
                exact cv_zret C hr hk (cv_bool (Or.inl rfl)) dX1_fitsEntry_113
              · have hm := cv_if_t h20 hm
                refine cv_iload_n (i := 1) (q := 103) 1 C dX1_fitsEntry_102 rfl rfl rfl ?_
                refine cv_bipush (v := 7) (q := 105) C dX1_fitsEntry_103 (by decide) rfl ?_
                refine cv_icmp_ge (tgt := 112) (q := 108) C dX1_fitsEntry_105 (by decide) rfl (fun h21 => ?_) (fun h21 => ?_)
                · have hm := cv_if_t h21 hm
                  refine cv_iconst (v := 0) (q := 113) C dX1_fitsEntry_112 (by decide) rfl ?_
                  obtain rfl := Option.some.inj hm
                  exact cv_zret C hr hk (cv_bool (Or.inl rfl)) dX1_fitsEntry_113
                · have hm := cv_if_f h21 hm
                  refine cv_iconst (v := 1) (q := 109) C dX1_fitsEntry_108 (by decide) rfl ?_
                  refine cv_goto (tgt := 113) C dX1_fitsEntry_109 (by decide) ?_
                  obtain rfl := Option.some.inj hm
                  exact cv_zret C hr hk (cv_bool (Or.inr rfl)) dX1_fitsEntry_113
            · have hm := cv_if_f h18 hm
              refine cv_tout (tgt := 114) C dX1_fitsEntry_1 (by have h1t := lv_neT (a := 0) h1 (by decide); have h4t := lv_neT (a := 1) h4 (by decide); have h7t := lv_neT (a := 2) h7 (by decide); have h12t := lv_neT (a := 3) h12 (by decide); have h15t := lv_neT (a := 4) h15 (by decide); have h18t := lv_neT (a := 5) h18 (by decide); omega) (by decide) ?_
              refine cv_aload_n (i := 0) (q := 115) 0 C dX1_fitsEntry_114 rfl rfl rfl ?_
              refine cv_iload_n (i := 3) (q := 116) 3 C dX1_fitsEntry_115 rfl rfl rfl ?_
              obtain ⟨r22, hr22, hm⟩ := cv_bd_s hm
              refine cv_goW (q := 119) C (KX1_isDigit (l := l) (σ := σ) (D := D) (cy := cy)  q  S a3 hr22) (cv_rv (As := [.int a3]) (st := []) (n := 1) (q0 := 0) (ci := 1) C (KX1_isDigit (l := l) (σ := σ) (D := D) (cy := cy)  q  S a3 hr22) rfl rfl gX1_fitsEntry_X1_isDigit rfl ⟨rfl, rfl⟩ (by decide +kernel) rfl ⟨Nat.le_of_ble_eq_true rfl, Nat.le_of_ble_eq_true rfl⟩ rfl (Nat.le_of_ble_eq_true rfl) dX1_fitsEntry_116 ⟨Nat.zero_le _, Nat.zero_le _⟩) rfl ?_
              obtain ⟨g23, hm⟩ := cv_gd_s hm
              obtain rfl := Option.some.inj hm
              exact cv_zret C hr hk (cv_bool g23) dX1_fitsEntry_119
def fX1_fits (S : SX1) (a1 : Int32) : Option (Int32) :=
  if a1 = 0 then
    (
    cv_bd (fX1_digit S (0 : Int32)) fun r2 =>
    if r2 < (2 : Int32) then
      (
      some (0 : Int32)
      )
    else
      (
      cv_bd (fX1_digit S (0 : Int32)) fun r4 =>
      if (4 : Int32) < r4 then
        (
        some (0 : Int32)
        )
      else
        (
        some (1 : Int32)
        )
      )
    )
  else
    (
    if a1 = 1 then
      (
      cv_bd (fX1_digit S (0 : Int32)) fun r7 =>
      cv_bd (fX1_digit S (1 : Int32)) fun r8 =>
      cv_bd (fX5_isRatio r7 r8) fun r9 =>
      cv_gd (r9 = 0 ∨ r9 = 1) <|
      some r9
      )
    else
      (
      if a1 = 2 then
        (
        cv_bd (fX1_code S (2 : Int32)) fun r12 =>
        if r12 = (59 : Int32) then
          (
          some (1 : Int32)
          )
        else
          (
          some (0 : Int32)
          )
        )
      else
        (
        if a1 = 3 then
          (
          cv_bd (fX1_isDigit S (3 : Int32)) fun r15 =>
          if r15 = 0 then
            (
            some (0 : Int32)
            )
          else
            (
            cv_bd (fX1_digit S (3 : Int32)) fun r17 =>
            if r17 ≤ 0 then
              (
              some (0 : Int32)
              )
            else
              (
              some (1 : Int32)
              )
            )
          )
        else
          (
          if a1 = 4 then
            (
            cv_bd (fX1_code S (4 : Int32)) fun r20 =>
            if r20 = (59 : Int32) then
              (
              some (1 : Int32)
              )
            else
              (
              some (0 : Int32)
              )
            )
          else
            (
            cv_bd (fX1_fitsEntry S ((a1 - (5 : Int32)) / (6 : Int32)) ((a1 - (5 : Int32)) - (a1 - (5 : Int32)) / (6 : Int32) * (6 : Int32)) a1) fun r22 =>
            cv_gd (r22 = 0 ∨ r22 = 1) <|
            some r22
            )
          )
        )
      )
    )
abbrev rX1_fits : Room := { frames := 6, cells := 0, slots := 0, locals := 135 }
set_option maxHeartbeats 4000000 in
set_option maxRecDepth 100000 in
theorem KX1_fits {l : Launch} {σ : Nat → Nat} {D : va_G} {cy : ClassId} (q : Nat → Nat) (S : SX1) (a1 : Int32) {res : Int32} (hm : fX1_fits S a1 = some res) : cv_M l yX1_fits wsX1_fits rX1_fits σ D [(cy, .int)] [.ref (q 0), .int a1] (wX1 q cy S) (some (.int res)) (wX1 q cy S) := by
  unfold fX1_fits at hm
  refine cv_M.of (own := RX1) (by decide +kernel) rfl rfl (lv := [(0, .ref (q 0)), (1, .int a1)]) rfl (Nat.le_of_ble_eq_true rfl) ?_
  intro p e s m args below meth c A C hr hk
  refine cv_iload_n (i := 1) (q := 1) 1 C dX1_fits_0 rfl rfl rfl ?_
  by_cases h1 : a1 = 0
  · have hm := cv_if_t h1 hm
    refine cv_tin (tgt := 36) 0 C dX1_fits_1 h1 (by decide) (by decide) rfl (by decide) ?_
    refine cv_aload_n (i := 0) (q := 37) 0 C dX1_fits_36 rfl rfl rfl ?_
    refine cv_iconst (v := 0) (q := 38) C dX1_fits_37 (by decide) rfl ?_
    obtain ⟨r2, hr2, hm⟩ := cv_bd_s hm
    refine cv_goW (q := 41) C (KX1_digit (l := l) (σ := σ) (D := D) (cy := cy)  q  S (0 : Int32) hr2) (cv_rv (As := [.int (0 : Int32)]) (st := []) (n := 1) (q0 := 0) (ci := 1) C (KX1_digit (l := l) (σ := σ) (D := D) (cy := cy)  q  S (0 : Int32) hr2) rfl rfl gX1_fits_X1_digit rfl ⟨rfl, rfl⟩ (by decide +kernel) rfl ⟨Nat.le_of_ble_eq_true rfl, Nat.le_of_ble_eq_true rfl⟩ rfl (Nat.le_of_ble_eq_true rfl) dX1_fits_38 ⟨Nat.zero_le _, Nat.zero_le _⟩) rfl ?_
    refine cv_iconst (v := 2) (q := 42) C dX1_fits_41 (by decide) rfl ?_
    refine cv_icmp_lt (tgt := 58) (q := 45) C dX1_fits_42 (by decide) rfl (fun h3 => ?_) (fun h3 => ?_)
    · have hm := cv_if_t h3 hm
      refine cv_iconst (v := 0) (q := 59) C dX1_fits_58 (by decide) rfl ?_
      obtain rfl := Option.some.inj hm
      exact cv_zret C hr hk (cv_bool (Or.inl rfl)) dX1_fits_59
    · have hm := cv_if_f h3 hm
      refine cv_aload_n (i := 0) (q := 46) 0 C dX1_fits_45 rfl rfl rfl ?_
      refine cv_iconst (v := 0) (q := 47) C dX1_fits_46 (by decide) rfl ?_
      obtain ⟨r4, hr4, hm⟩ := cv_bd_s hm
      refine cv_goW (q := 50) C (KX1_digit (l := l) (σ := σ) (D := D) (cy := cy)  q  S (0 : Int32) hr4) (cv_rv (As := [.int (0 : Int32)]) (st := []) (n := 1) (q0 := 0) (ci := 1) C (KX1_digit (l := l) (σ := σ) (D := D) (cy := cy)  q  S (0 : Int32) hr4) rfl rfl gX1_fits_X1_digit rfl ⟨rfl, rfl⟩ (by decide +kernel) rfl ⟨Nat.le_of_ble_eq_true rfl, Nat.le_of_ble_eq_true rfl⟩ rfl (Nat.le_of_ble_eq_true rfl) dX1_fits_47 ⟨Nat.zero_le _, Nat.zero_le _⟩) rfl ?_
      refine cv_iconst (v := 4) (q := 51) C dX1_fits_50 (by decide) rfl ?_
      refine cv_icmp_gt (tgt := 58) (q := 54) C dX1_fits_51 (by decide) rfl (fun h5 => ?_) (fun h5 => ?_)
      · have hm := cv_if_t h5 hm
        refine cv_iconst (v := 0) (q := 59) C dX1_fits_58 (by decide) rfl ?_
        obtain rfl := Option.some.inj hm
        exact cv_zret C hr hk (cv_bool (Or.inl rfl)) dX1_fits_59
      · have hm := cv_if_f h5 hm
        refine cv_iconst (v := 1) (q := 55) C dX1_fits_54 (by decide) rfl ?_
        refine cv_goto (tgt := 59) C dX1_fits_55 (by decide) ?_
        obtain rfl := Option.some.inj hm
        exact cv_zret C hr hk (cv_bool (Or.inr rfl)) dX1_fits_59
  · have hm := cv_if_f h1 hm
    by_cases h6 : a1 = 1
    · have hm := cv_if_t h6 hm
      refine cv_tin (tgt := 60) 1 C dX1_fits_1 h6 (by decide) (by decide) rfl (by decide) ?_
      refine cv_aload_n (i := 0) (q := 61) 0 C dX1_fits_60 rfl rfl rfl ?_
      refine cv_iconst (v := 0) (q := 62) C dX1_fits_61 (by decide) rfl ?_
      obtain ⟨r7, hr7, hm⟩ := cv_bd_s hm
      refine cv_goW (q := 65) C (KX1_digit (l := l) (σ := σ) (D := D) (cy := cy)  q  S (0 : Int32) hr7) (cv_rv (As := [.int (0 : Int32)]) (st := []) (n := 1) (q0 := 0) (ci := 1) C (KX1_digit (l := l) (σ := σ) (D := D) (cy := cy)  q  S (0 : Int32) hr7) rfl rfl gX1_fits_X1_digit rfl ⟨rfl, rfl⟩ (by decide +kernel) rfl ⟨Nat.le_of_ble_eq_true rfl, Nat.le_of_ble_eq_true rfl⟩ rfl (Nat.le_of_ble_eq_true rfl) dX1_fits_62 ⟨Nat.zero_le _, Nat.zero_le _⟩) rfl ?_
      refine cv_aload_n (i := 0) (q := 66) 0 C dX1_fits_65 rfl rfl rfl ?_
      refine cv_iconst (v := 1) (q := 67) C dX1_fits_66 (by decide) rfl ?_
      obtain ⟨r8, hr8, hm⟩ := cv_bd_s hm
      refine cv_goW (q := 70) C (KX1_digit (l := l) (σ := σ) (D := D) (cy := cy)  q  S (1 : Int32) hr8) (cv_rv (As := [.int (1 : Int32)]) (st := [.int r7]) (n := 1) (q0 := 0) (ci := 1) C (KX1_digit (l := l) (σ := σ) (D := D) (cy := cy)  q  S (1 : Int32) hr8) rfl rfl gX1_fits_X1_digit rfl ⟨rfl, rfl⟩ (by decide +kernel) rfl ⟨Nat.le_of_ble_eq_true rfl, Nat.le_of_ble_eq_true rfl⟩ rfl (Nat.le_of_ble_eq_true rfl) dX1_fits_67 ⟨Nat.zero_le _, Nat.zero_le _⟩) rfl ?_
      obtain ⟨r9, hr9, hm⟩ := cv_bd_s hm
      refine cv_goE (q := 73) C (KX5_isRatio (l := l) (σ := σ) (D := D) (cy := cy)     r7 r8 hr9) (cv_rn (As := [.int r7, .int r8]) (st := []) (host := RX5) (n := 2) C (KX5_isRatio (l := l) (σ := σ) (D := D) (cy := cy)     r7 r8 hr9) gX1_fits_X5_isRatio_n39 C.2.2.2.2.2.2.2.2.2.2.2.2.1 (List.mem_of_getElem? (i := 12) rfl) (List.mem_of_getElem? (i := 13) rfl) rfl ⟨rfl, rfl⟩ (by decide +kernel) rfl ⟨Nat.le_of_ble_eq_true rfl, Nat.le_of_ble_eq_true rfl⟩ rfl (Nat.le_of_ble_eq_true rfl) dX1_fits_70 ⟨Nat.zero_le _, Nat.zero_le _⟩) rfl ?_
      obtain ⟨g10, hm⟩ := cv_gd_s hm
      obtain rfl := Option.some.inj hm
      exact cv_zret C hr hk (cv_bool g10) dX1_fits_73
    · have hm := cv_if_f h6 hm
      by_cases h11 : a1 = 2
      · have hm := cv_if_t h11 hm
        refine cv_tin (tgt := 74) 2 C dX1_fits_1 h11 (by decide) (by decide) rfl (by decide) ?_
        refine cv_aload_n (i := 0) (q := 75) 0 C dX1_fits_74 rfl rfl rfl ?_
        refine cv_iconst (v := 2) (q := 76) C dX1_fits_75 (by decide) rfl ?_
        obtain ⟨r12, hr12, hm⟩ := cv_bd_s hm
        refine cv_goW (q := 79) C (KX1_code (l := l) (σ := σ) (D := D) (cy := cy)  q  S (2 : Int32) hr12) (cv_rv (As := [.int (2 : Int32)]) (st := []) (n := 1) (q0 := 0) (ci := 1) C (KX1_code (l := l) (σ := σ) (D := D) (cy := cy)  q  S (2 : Int32) hr12) rfl rfl gX1_fits_X1_code rfl ⟨rfl, rfl⟩ (by decide +kernel) rfl ⟨Nat.le_of_ble_eq_true rfl, Nat.le_of_ble_eq_true rfl⟩ rfl (Nat.le_of_ble_eq_true rfl) dX1_fits_76 ⟨Nat.zero_le _, Nat.zero_le _⟩) rfl ?_
        refine cv_bipush (v := 59) (q := 81) C dX1_fits_79 (by decide) rfl ?_
        refine cv_icmp_ne (tgt := 88) (q := 84) C dX1_fits_81 (by decide) rfl (fun h13 => ?_) (fun h13 => ?_)
        · have hm := cv_if_f h13 hm
          refine cv_iconst (v := 0) (q := 89) C dX1_fits_88 (by decide) rfl ?_
          obtain rfl := Option.some.inj hm
          exact cv_zret C hr hk (cv_bool (Or.inl rfl)) dX1_fits_89
        · have hm := cv_if_t h13 hm
          refine cv_iconst (v := 1) (q := 85) C dX1_fits_84 (by decide) rfl ?_
          refine cv_goto (tgt := 89) C dX1_fits_85 (by decide) ?_
          obtain rfl := Option.some.inj hm
          exact cv_zret C hr hk (cv_bool (Or.inr rfl)) dX1_fits_89
      · have hm := cv_if_f h11 hm
        by_cases h14 : a1 = 3
        · have hm := cv_if_t h14 hm
          refine cv_tin (tgt := 90) 3 C dX1_fits_1 h14 (by decide) (by decide) rfl (by decide) ?_
          refine cv_aload_n (i := 0) (q := 91) 0 C dX1_fits_90 rfl rfl rfl ?_
          refine cv_iconst (v := 3) (q := 92) C dX1_fits_91 (by decide) rfl ?_
          obtain ⟨r15, hr15, hm⟩ := cv_bd_s hm
          refine cv_goW (q := 95) C (KX1_isDigit (l := l) (σ := σ) (D := D) (cy := cy)  q  S (3 : Int32) hr15) (cv_rv (As := [.int (3 : Int32)]) (st := []) (n := 1) (q0 := 0) (ci := 1) C (KX1_isDigit (l := l) (σ := σ) (D := D) (cy := cy)  q  S (3 : Int32) hr15) rfl rfl gX1_fits_X1_isDigit rfl ⟨rfl, rfl⟩ (by decide +kernel) rfl ⟨Nat.le_of_ble_eq_true rfl, Nat.le_of_ble_eq_true rfl⟩ rfl (Nat.le_of_ble_eq_true rfl) dX1_fits_92 ⟨Nat.zero_le _, Nat.zero_le _⟩) rfl ?_
          refine cv_if_eq (tgt := 110) (q := 98) C dX1_fits_95 (by decide) rfl (fun h16 => ?_) (fun h16 => ?_)
          · have hm := cv_if_t h16 hm
            refine cv_iconst (v := 0) (q := 111) C dX1_fits_110 (by decide) rfl ?_
            obtain rfl := Option.some.inj hm
            exact cv_zret C hr hk (cv_bool (Or.inl rfl)) dX1_fits_111
          · have hm := cv_if_f h16 hm
            refine cv_aload_n (i := 0) (q := 99) 0 C dX1_fits_98 rfl rfl rfl ?_
            refine cv_iconst (v := 3) (q := 100) C dX1_fits_99 (by decide) rfl ?_
            obtain ⟨r17, hr17, hm⟩ := cv_bd_s hm
            refine cv_goW (q := 103) C (KX1_digit (l := l) (σ := σ) (D := D) (cy := cy)  q  S (3 : Int32) hr17) (cv_rv (As := [.int (3 : Int32)]) (st := []) (n := 1) (q0 := 0) (ci := 1) C (KX1_digit (l := l) (σ := σ) (D := D) (cy := cy)  q  S (3 : Int32) hr17) rfl rfl gX1_fits_X1_digit rfl ⟨rfl, rfl⟩ (by decide +kernel) rfl ⟨Nat.le_of_ble_eq_true rfl, Nat.le_of_ble_eq_true rfl⟩ rfl (Nat.le_of_ble_eq_true rfl) dX1_fits_100 ⟨Nat.zero_le _, Nat.zero_le _⟩) rfl ?_
            refine cv_if_le (tgt := 110) (q := 106) C dX1_fits_103 (by decide) rfl (fun h18 => ?_) (fun h18 => ?_)
            · have hm := cv_if_t h18 hm
              refine cv_iconst (v := 0) (q := 111) C dX1_fits_110 (by decide) rfl ?_
              obtain rfl := Option.some.inj hm
              exact cv_zret C hr hk (cv_bool (Or.inl rfl)) dX1_fits_111
            · have hm := cv_if_f h18 hm
              refine cv_iconst (v := 1) (q := 107) C dX1_fits_106 (by decide) rfl ?_
              refine cv_goto (tgt := 111) C dX1_fits_107 (by decide) ?_
              obtain rfl := Option.some.inj hm
              exact cv_zret C hr hk (cv_bool (Or.inr rfl)) dX1_fits_111
        · have hm := cv_if_f h14 hm
          by_cases h19 : a1 = 4
          · have hm := cv_if_t h19 hm
            refine cv_tin (tgt := 112) 4 C dX1_fits_1 h19 (by decide) (by decide) rfl (by decide) ?_
            refine cv_aload_n (i := 0) (q := 113) 0 C dX1_fits_112 rfl rfl rfl ?_
            refine cv_iconst (v := 4) (q := 114) C dX1_fits_113 (by decide) rfl ?_
            obtain ⟨r20, hr20, hm⟩ := cv_bd_s hm
            refine cv_goW (q := 117) C (KX1_code (l := l) (σ := σ) (D := D) (cy := cy)  q  S (4 : Int32) hr20) (cv_rv (As := [.int (4 : Int32)]) (st := []) (n := 1) (q0 := 0) (ci := 1) C (KX1_code (l := l) (σ := σ) (D := D) (cy := cy)  q  S (4 : Int32) hr20) rfl rfl gX1_fits_X1_code rfl ⟨rfl, rfl⟩ (by decide +kernel) rfl ⟨Nat.le_of_ble_eq_true rfl, Nat.le_of_ble_eq_true rfl⟩ rfl (Nat.le_of_ble_eq_true rfl) dX1_fits_114 ⟨Nat.zero_le _, Nat.zero_le _⟩) rfl ?_
            refine cv_bipush (v := 59) (q := 119) C dX1_fits_117 (by decide) rfl ?_
            refine cv_icmp_ne (tgt := 126) (q := 122) C dX1_fits_119 (by decide) rfl (fun h21 => ?_) (fun h21 => ?_)
            · have hm := cv_if_f h21 hm
              refine cv_iconst (v := 0) (q := 127) C dX1_fits_126 (by decide) rfl ?_
              obtain rfl := Option.some.inj hm
              exact cv_zret C hr hk (cv_bool (Or.inl rfl)) dX1_fits_127
            · have hm := cv_if_t h21 hm
              refine cv_iconst (v := 1) (q := 123) C dX1_fits_122 (by decide) rfl ?_
              refine cv_goto (tgt := 127) C dX1_fits_123 (by decide) ?_
              obtain rfl := Option.some.inj hm
              exact cv_zret C hr hk (cv_bool (Or.inr rfl)) dX1_fits_127
          · have hm := cv_if_f h19 hm
            refine cv_tout (tgt := 128) C dX1_fits_1 (by have h1t := lv_neT (a := 0) h1 (by decide); have h6t := lv_neT (a := 1) h6 (by decide); have h11t := lv_neT (a := 2) h11 (by decide); have h14t := lv_neT (a := 3) h14 (by decide); have h19t := lv_neT (a := 4) h19 (by decide); omega) (by decide) ?_
            refine cv_aload_n (i := 0) (q := 129) 0 C dX1_fits_128 rfl rfl rfl ?_
            refine cv_iload_n (i := 1) (q := 130) 1 C dX1_fits_129 rfl rfl rfl ?_
            refine cv_iconst (v := 5) (q := 131) C dX1_fits_130 (by decide) rfl ?_
            refine cv_isub (q := 132) C dX1_fits_131 rfl ?_
            refine cv_bipush (v := 6) (q := 134) C dX1_fits_132 (by decide) rfl ?_
            refine cv_idiv (q := 135) C dX1_fits_134 (by decide) rfl ?_
            refine cv_iload_n (i := 1) (q := 136) 1 C dX1_fits_135 rfl rfl rfl ?_
            refine cv_iconst (v := 5) (q := 137) C dX1_fits_136 (by decide) rfl ?_
            refine cv_isub (q := 138) C dX1_fits_137 rfl ?_
            refine cv_bipush (v := 6) (q := 140) C dX1_fits_138 (by decide) rfl ?_
            refine cv_irem (q := 141) C dX1_fits_140 (by decide) rfl ?_
            refine cv_iload_n (i := 1) (q := 142) 1 C dX1_fits_141 rfl rfl rfl ?_
            obtain ⟨r22, hr22, hm⟩ := cv_bd_s hm
            refine cv_goW (q := 145) C (KX1_fitsEntry (l := l) (σ := σ) (D := D) (cy := cy)  q  S ((a1 - (5 : Int32)) / (6 : Int32)) ((a1 - (5 : Int32)) - (a1 - (5 : Int32)) / (6 : Int32) * (6 : Int32)) a1 hr22) (cv_rv (As := [.int ((a1 - (5 : Int32)) / (6 : Int32)), .int ((a1 - (5 : Int32)) - (a1 - (5 : Int32)) / (6 : Int32) * (6 : Int32)), .int a1]) (st := []) (n := 3) (q0 := 0) (ci := 1) C (KX1_fitsEntry (l := l) (σ := σ) (D := D) (cy := cy)  q  S ((a1 - (5 : Int32)) / (6 : Int32)) ((a1 - (5 : Int32)) - (a1 - (5 : Int32)) / (6 : Int32) * (6 : Int32)) a1 hr22) rfl rfl gX1_fits_X1_fitsEntry rfl ⟨rfl, rfl⟩ (by decide +kernel) rfl ⟨Nat.le_of_ble_eq_true rfl, Nat.le_of_ble_eq_true rfl⟩ rfl (Nat.le_of_ble_eq_true rfl) dX1_fits_142 ⟨Nat.zero_le _, Nat.zero_le _⟩) rfl ?_
            obtain ⟨g23, hm⟩ := cv_gd_s hm
            obtain rfl := Option.some.inj hm
            exact cv_zret C hr hk (cv_bool g23) dX1_fits_145
def fX1_firstWrong_L2 (S : SX1) : Nat → Int32 → Option (Int32)
  | 0, _ => none
  | n + 1, y1 =>
    if (gX1_length S) ≤ y1 then
      (
      some (gX1_length S)
      )
    else
      (
      cv_bd (fX1_fits S y1) fun r2 =>
      if r2 = 0 then
        (
        some y1
        )
      else
        (
        cv_lt (y1 + (1 : Int32)) fun x4 =>
        fX1_firstWrong_L2 S n x4
        )
      )
def fX1_firstWrong (S : SX1) : Option (Int32) :=
  fX1_firstWrong_L2 S 256 (0 : Int32)
abbrev rX1_firstWrong : Room := { frames := 7, cells := 0, slots := 0, locals := 156 }
theorem iX1_firstWrong_X1 : ∀ w ∈ u_ws RX1 TX1 2, w ∈ wsX1_firstWrong := fun w h => List.mem_cons_of_mem _ (List.mem_append_right _ h)
set_option maxHeartbeats 4000000 in
set_option maxRecDepth 100000 in
theorem vX1_firstWrong_L2 {p : Program} {l : Launch} {e : Env} {s : State} {m : MethodId} {args : Array Value} {below : List Frame} {meth : Method} {c : Code} {σ : Nat → Nat} {D : va_G} {A : Nat → Prop} {cy : ClassId} (q : Nat → Nat) (S : SX1) (C : cv_C p s m args c cX1_firstWrong 2 RX1 wsX1_firstWrong σ D [(cy, .int)] A) (hr : meth.sig.returnType = some .int) (hk : meth.locks = false) {res : Int32} : ∀ (n : Nat) (y1 : Int32), fX1_firstWrong_L2 S n y1 = some res → cv_V p l e rX1_firstWrong s m args below meth c 2 D A (cv_Q below (some (.int res)) (wX1 q cy S) D [(cy, .int)] A args s) 0 0 (wX1 q cy S) 2 [(0, .ref (q 0)), (1, .int y1)] [] := by
  intro n
  induction n with
  | zero => intro y1 hm; cases hm
  | succ n ih =>
    intro y1 hm
    have hm : fX1_firstWrong_L2 S (n + 1) y1 = some res := hm
    unfold fX1_firstWrong_L2 at hm
    refine cv_iload_n (i := 1) (q := 3) 1 C dX1_firstWrong_2 rfl rfl rfl ?_
    refine cv_aload_n (i := 0) (q := 4) 0 C dX1_firstWrong_3 rfl rfl rfl ?_
    refine cv_get (q := 7) C iX1_firstWrong_X1 0 rfl rfl 1 (by decide) (List.mem_of_getElem? (i := 1) rfl) rfl rfl dX1_firstWrong_4 rfl ?_
    refine cv_icmp_ge (tgt := 26) (q := 10) C dX1_firstWrong_7 (by decide) rfl (fun h1 => ?_) (fun h1 => ?_)
    · have hm := cv_if_t h1 hm
      refine cv_aload_n (i := 0) (q := 27) 0 C dX1_firstWrong_26 rfl rfl rfl ?_
      refine cv_get (q := 30) C iX1_firstWrong_X1 0 rfl rfl 1 (by decide) (List.mem_of_getElem? (i := 1) rfl) rfl rfl dX1_firstWrong_27 rfl ?_
      obtain rfl := Option.some.inj hm
      exact cv_iret C hr hk dX1_firstWrong_30
    · have hm := cv_if_f h1 hm
      refine cv_aload_n (i := 0) (q := 11) 0 C dX1_firstWrong_10 rfl rfl rfl ?_
      refine cv_iload_n (i := 1) (q := 12) 1 C dX1_firstWrong_11 rfl rfl rfl ?_
      obtain ⟨r2, hr2, hm⟩ := cv_bd_s hm
      refine cv_goW (q := 15) C (KX1_fits (l := l) (σ := σ) (D := D) (cy := cy)  q  S y1 hr2) (cv_rv (As := [.int y1]) (st := []) (n := 1) (q0 := 0) (ci := 1) C (KX1_fits (l := l) (σ := σ) (D := D) (cy := cy)  q  S y1 hr2) rfl rfl gX1_firstWrong_X1_fits rfl ⟨rfl, rfl⟩ (by decide +kernel) rfl ⟨Nat.le_of_ble_eq_true rfl, Nat.le_of_ble_eq_true rfl⟩ rfl (Nat.le_of_ble_eq_true rfl) dX1_firstWrong_12 ⟨Nat.zero_le _, Nat.zero_le _⟩) rfl ?_
      refine cv_if_ne (tgt := 20) (q := 18) C dX1_firstWrong_15 (by decide) rfl (fun h3 => ?_) (fun h3 => ?_)
      · have hm := cv_if_f h3 hm
        obtain ⟨x4, ex4, hm⟩ := cv_lt_s hm
        refine cv_iinc (v := x4) (lv' := [(1, .int x4), (0, .ref (q 0))]) (q := 23) 1 C dX1_firstWrong_20 rfl (by rw [ex4]; rfl) (by decide) rfl rfl ?_
        refine cv_goto (tgt := 2) C dX1_firstWrong_23 (by decide) ?_
        refine cv_sub [1, 0] rfl ?_
        exact ih x4 hm
      · have hm := cv_if_t h3 hm
        refine cv_iload_n (i := 1) (q := 19) 1 C dX1_firstWrong_18 rfl rfl rfl ?_
        obtain rfl := Option.some.inj hm
        exact cv_iret C hr hk dX1_firstWrong_19
set_option maxHeartbeats 4000000 in
set_option maxRecDepth 100000 in
theorem KX1_firstWrong {l : Launch} {σ : Nat → Nat} {D : va_G} {cy : ClassId} (q : Nat → Nat) (S : SX1) {res : Int32} (hm : fX1_firstWrong S = some res) : cv_M l yX1_firstWrong wsX1_firstWrong rX1_firstWrong σ D [(cy, .int)] [.ref (q 0)] (wX1 q cy S) (some (.int res)) (wX1 q cy S) := by
  unfold fX1_firstWrong at hm
  refine cv_M.of (own := RX1) (by decide +kernel) rfl rfl (lv := [(0, .ref (q 0))]) rfl (Nat.le_of_ble_eq_true rfl) ?_
  intro p e s m args below meth c A C hr hk
  refine cv_iconst (v := 0) (q := 1) C dX1_firstWrong_0 (by decide) rfl ?_
  refine cv_istore_n (i := 1) (lv' := [(1, .int (0 : Int32)), (0, .ref (q 0))]) (q := 2) C dX1_firstWrong_1 rfl (by decide) rfl rfl ?_
  refine cv_sub [1, 0] rfl ?_
  exact vX1_firstWrong_L2 q S C hr hk 256 (0 : Int32) hm
def fX1_isShelf (S : SX1) : Option (Int32) :=
  cv_bd (
    if (gX1_length S) = (5 : Int32) then
      (
      some (1 : Int32)
      )
    else
      (
      if (gX1_length S) ≤ (5 : Int32) then
        (
        some (0 : Int32)
        )
      else
        (
        if (((gX1_length S) - (5 : Int32)) - ((gX1_length S) - (5 : Int32)) / (6 : Int32) * (6 : Int32)) = (5 : Int32) then
          (
          some (1 : Int32)
          )
        else
          (
          some (0 : Int32)
          )
        )
      )
  ) fun j1 =>
  if j1 = 0 then
    (
    some (0 : Int32)
    )
  else
    (
    cv_bd (fX1_firstWrong S) fun r4 =>
    if r4 = (gX1_length S) then
      (
      some (1 : Int32)
      )
    else
      (
      some (0 : Int32)
      )
    )
abbrev rX1_isShelf : Room := { frames := 8, cells := 0, slots := 0, locals := 177 }
theorem iX1_isShelf_X1 : ∀ w ∈ u_ws RX1 TX1 2, w ∈ wsX1_isShelf := fun w h => List.mem_cons_of_mem _ (List.mem_append_right _ h)
set_option maxHeartbeats 4000000 in
set_option maxRecDepth 100000 in
theorem KX1_isShelf {l : Launch} {σ : Nat → Nat} {D : va_G} {cy : ClassId} (q : Nat → Nat) (S : SX1) {res : Int32} (hm : fX1_isShelf S = some res) : cv_M l yX1_isShelf wsX1_isShelf rX1_isShelf σ D [(cy, .int)] [.ref (q 0)] (wX1 q cy S) (some (.int res)) (wX1 q cy S) := by
  unfold fX1_isShelf at hm
  refine cv_M.of (own := RX1) (by decide +kernel) rfl rfl (lv := [(0, .ref (q 0))]) rfl (Nat.le_of_ble_eq_true rfl) ?_
  intro p e s m args below meth c A C hr hk
  refine cv_aload_n (i := 0) (q := 1) 0 C dX1_isShelf_0 rfl rfl rfl ?_
  refine cv_get (q := 4) C iX1_isShelf_X1 0 rfl rfl 1 (by decide) (List.mem_of_getElem? (i := 1) rfl) rfl rfl dX1_isShelf_1 rfl ?_
  refine cv_iconst (v := 5) (q := 5) C dX1_isShelf_4 (by decide) rfl ?_
  obtain ⟨j1, hj1, hm⟩ := cv_bd_s hm
  refine cv_cut (ws' := (wX1 q cy S)) (pc' := 34) (lv' := [(0, .ref (q 0))]) (st' := [.int j1]) ?_ (fun K2 => ?_)
  · refine cv_istore_n (i := 1) (lv' := [(1, .int j1), (0, .ref (q 0))]) (q := 35) C dX1_isShelf_34 rfl (by decide) rfl rfl ?_
    refine cv_iload_n (i := 1) (q := 36) 0 C dX1_isShelf_35 rfl rfl rfl ?_
    refine cv_if_eq (tgt := 54) (q := 39) C dX1_isShelf_36 (by decide) rfl (fun h3 => ?_) (fun h3 => ?_)
    · have hm := cv_if_t h3 hm
      refine cv_iconst (v := 0) (q := 55) C dX1_isShelf_54 (by decide) rfl ?_
      obtain rfl := Option.some.inj hm
      exact cv_zret C hr hk (cv_bool (Or.inl rfl)) dX1_isShelf_55
    · have hm := cv_if_f h3 hm
      refine cv_aload_n (i := 0) (q := 40) 1 C dX1_isShelf_39 rfl rfl rfl ?_
      obtain ⟨r4, hr4, hm⟩ := cv_bd_s hm
      refine cv_goW (q := 43) C (KX1_firstWrong (l := l) (σ := σ) (D := D) (cy := cy)  q  S  hr4) (cv_rv (As := []) (st := []) (n := 0) (q0 := 0) (ci := 1) C (KX1_firstWrong (l := l) (σ := σ) (D := D) (cy := cy)  q  S  hr4) rfl rfl gX1_isShelf_X1_firstWrong rfl ⟨rfl, rfl⟩ (by decide +kernel) rfl ⟨Nat.le_of_ble_eq_true rfl, Nat.le_of_ble_eq_true rfl⟩ rfl (Nat.le_of_ble_eq_true rfl) dX1_isShelf_40 ⟨Nat.zero_le _, Nat.zero_le _⟩) rfl ?_
      refine cv_aload_n (i := 0) (q := 44) 1 C dX1_isShelf_43 rfl rfl rfl ?_
      refine cv_get (q := 47) C iX1_isShelf_X1 0 rfl rfl 1 (by decide) (List.mem_of_getElem? (i := 1) rfl) rfl rfl dX1_isShelf_44 rfl ?_
      refine cv_icmp_ne (tgt := 54) (q := 50) C dX1_isShelf_47 (by decide) rfl (fun h5 => ?_) (fun h5 => ?_)
      · have hm := cv_if_f h5 hm
        refine cv_iconst (v := 0) (q := 55) C dX1_isShelf_54 (by decide) rfl ?_
        obtain rfl := Option.some.inj hm
        exact cv_zret C hr hk (cv_bool (Or.inl rfl)) dX1_isShelf_55
      · have hm := cv_if_t h5 hm
        refine cv_iconst (v := 1) (q := 51) C dX1_isShelf_50 (by decide) rfl ?_
        refine cv_goto (tgt := 55) C dX1_isShelf_51 (by decide) ?_
        obtain rfl := Option.some.inj hm
        exact cv_zret C hr hk (cv_bool (Or.inr rfl)) dX1_isShelf_55
  · have hm := hj1
    refine cv_icmp_eq (tgt := 29) (q := 8) C dX1_isShelf_5 (by decide) rfl (fun h6 => ?_) (fun h6 => ?_)
    · have hm := cv_if_t h6 hm
      refine cv_iconst (v := 1) (q := 30) C dX1_isShelf_29 (by decide) rfl ?_
      refine cv_goto (tgt := 34) C dX1_isShelf_30 (by decide) ?_
      obtain rfl := Option.some.inj hm
      exact K2
    · have hm := cv_if_f h6 hm
      refine cv_aload_n (i := 0) (q := 9) 0 C dX1_isShelf_8 rfl rfl rfl ?_
      refine cv_get (q := 12) C iX1_isShelf_X1 0 rfl rfl 1 (by decide) (List.mem_of_getElem? (i := 1) rfl) rfl rfl dX1_isShelf_9 rfl ?_
      refine cv_iconst (v := 5) (q := 13) C dX1_isShelf_12 (by decide) rfl ?_
      refine cv_icmp_le (tgt := 33) (q := 16) C dX1_isShelf_13 (by decide) rfl (fun h7 => ?_) (fun h7 => ?_)
      · have hm := cv_if_t h7 hm
        refine cv_iconst (v := 0) (q := 34) C dX1_isShelf_33 (by decide) rfl ?_
        obtain rfl := Option.some.inj hm
        exact K2
      · have hm := cv_if_f h7 hm
        refine cv_aload_n (i := 0) (q := 17) 0 C dX1_isShelf_16 rfl rfl rfl ?_
        refine cv_get (q := 20) C iX1_isShelf_X1 0 rfl rfl 1 (by decide) (List.mem_of_getElem? (i := 1) rfl) rfl rfl dX1_isShelf_17 rfl ?_
        refine cv_iconst (v := 5) (q := 21) C dX1_isShelf_20 (by decide) rfl ?_
        refine cv_isub (q := 22) C dX1_isShelf_21 rfl ?_
        refine cv_bipush (v := 6) (q := 24) C dX1_isShelf_22 (by decide) rfl ?_
        refine cv_irem (q := 25) C dX1_isShelf_24 (by decide) rfl ?_
        refine cv_iconst (v := 5) (q := 26) C dX1_isShelf_25 (by decide) rfl ?_
        refine cv_icmp_ne (tgt := 33) (q := 29) C dX1_isShelf_26 (by decide) rfl (fun h8 => ?_) (fun h8 => ?_)
        · have hm := cv_if_f h8 hm
          refine cv_iconst (v := 0) (q := 34) C dX1_isShelf_33 (by decide) rfl ?_
          obtain rfl := Option.some.inj hm
          exact K2
        · have hm := cv_if_t h8 hm
          refine cv_iconst (v := 1) (q := 30) C dX1_isShelf_29 (by decide) rfl ?_
          refine cv_goto (tgt := 34) C dX1_isShelf_30 (by decide) ?_
          obtain rfl := Option.some.inj hm
          exact K2
def fX1_entries (S : SX1) : Option (Int32) :=
  some ((((gX1_length S) - (5 : Int32)) + (1 : Int32)) / (6 : Int32))
abbrev rX1_entries : Room := { frames := 0, cells := 0, slots := 0, locals := 0 }
theorem iX1_entries_X1 : ∀ w ∈ u_ws RX1 TX1 2, w ∈ wsX1_entries := fun w h => List.mem_cons_of_mem _ (List.mem_append_right _ h)
set_option maxHeartbeats 4000000 in
set_option maxRecDepth 100000 in
theorem KX1_entries {l : Launch} {σ : Nat → Nat} {D : va_G} {cy : ClassId} (q : Nat → Nat) (S : SX1) {res : Int32} (hm : fX1_entries S = some res) : cv_M l yX1_entries wsX1_entries rX1_entries σ D [(cy, .int)] [.ref (q 0)] (wX1 q cy S) (some (.int res)) (wX1 q cy S) := by
  unfold fX1_entries at hm
  refine cv_M.of (own := RX1) (by decide +kernel) rfl rfl (lv := [(0, .ref (q 0))]) rfl (Nat.le_of_ble_eq_true rfl) ?_
  intro p e s m args below meth c A C hr hk
  refine cv_aload_n (i := 0) (q := 1) 0 C dX1_entries_0 rfl rfl rfl ?_
  refine cv_get (q := 4) C iX1_entries_X1 0 rfl rfl 1 (by decide) (List.mem_of_getElem? (i := 1) rfl) rfl rfl dX1_entries_1 rfl ?_
  refine cv_iconst (v := 5) (q := 5) C dX1_entries_4 (by decide) rfl ?_
  refine cv_isub (q := 6) C dX1_entries_5 rfl ?_
  refine cv_iconst (v := 1) (q := 7) C dX1_entries_6 (by decide) rfl ?_
  refine cv_iadd (q := 8) C dX1_entries_7 rfl ?_
  refine cv_bipush (v := 6) (q := 10) C dX1_entries_8 (by decide) rfl ?_
  refine cv_idiv (q := 11) C dX1_entries_10 (by decide) rfl ?_
  obtain rfl := Option.some.inj hm
  exact cv_iret C hr hk dX1_entries_11
def fX1_keyOf (S : SX1) (a1 : Int32) : Option (Int32) :=
  cv_lt (((5 : Int32) + (a1 * (6 : Int32)))) fun x1 =>
  cv_bd (fX1_digit S (x1 + (1 : Int32))) fun r2 =>
  cv_bd (fX1_digit S (x1 + (2 : Int32))) fun r3 =>
  some (((10 : Int32) * r2) + r3)
abbrev rX1_keyOf : Room := { frames := 2, cells := 0, slots := 0, locals := 42 }
set_option maxHeartbeats 4000000 in
set_option maxRecDepth 100000 in
theorem KX1_keyOf {l : Launch} {σ : Nat → Nat} {D : va_G} {cy : ClassId} (q : Nat → Nat) (S : SX1) (a1 : Int32) {res : Int32} (hm : fX1_keyOf S a1 = some res) : cv_M l yX1_keyOf wsX1_keyOf rX1_keyOf σ D [(cy, .int)] [.ref (q 0), .int a1] (wX1 q cy S) (some (.int res)) (wX1 q cy S) := by
  unfold fX1_keyOf at hm
  refine cv_M.of (own := RX1) (by decide +kernel) rfl rfl (lv := [(0, .ref (q 0)), (1, .int a1)]) rfl (Nat.le_of_ble_eq_true rfl) ?_
  intro p e s m args below meth c A C hr hk
  refine cv_iconst (v := 5) (q := 1) C dX1_keyOf_0 (by decide) rfl ?_
  refine cv_iload_n (i := 1) (q := 2) 1 C dX1_keyOf_1 rfl rfl rfl ?_
  refine cv_bipush (v := 6) (q := 4) C dX1_keyOf_2 (by decide) rfl ?_
  refine cv_imul (q := 5) C dX1_keyOf_4 rfl ?_
  refine cv_iadd (q := 6) C dX1_keyOf_5 rfl ?_
  obtain ⟨x1, ex1, hm⟩ := cv_lt_s hm
  refine cv_topi ex1 ?_
  refine cv_istore_n (i := 2) (lv' := [(2, .int x1), (0, .ref (q 0)), (1, .int a1)]) (q := 7) C dX1_keyOf_6 rfl (by decide) rfl rfl ?_
  refine cv_bipush (v := 10) (q := 9) C dX1_keyOf_7 (by decide) rfl ?_
  refine cv_aload_n (i := 0) (q := 10) 1 C dX1_keyOf_9 rfl rfl rfl ?_
  refine cv_iload_n (i := 2) (q := 11) 0 C dX1_keyOf_10 rfl rfl rfl ?_
  refine cv_iconst (v := 1) (q := 12) C dX1_keyOf_11 (by decide) rfl ?_
  refine cv_iadd (q := 13) C dX1_keyOf_12 rfl ?_
  obtain ⟨r2, hr2, hm⟩ := cv_bd_s hm
  refine cv_goW (q := 16) C (KX1_digit (l := l) (σ := σ) (D := D) (cy := cy)  q  S (x1 + (1 : Int32)) hr2) (cv_rv (As := [.int (x1 + (1 : Int32))]) (st := [.int (10 : Int32)]) (n := 1) (q0 := 0) (ci := 1) C (KX1_digit (l := l) (σ := σ) (D := D) (cy := cy)  q  S (x1 + (1 : Int32)) hr2) rfl rfl gX1_keyOf_X1_digit rfl ⟨rfl, rfl⟩ (by decide +kernel) rfl ⟨Nat.le_of_ble_eq_true rfl, Nat.le_of_ble_eq_true rfl⟩ rfl (Nat.le_of_ble_eq_true rfl) dX1_keyOf_13 ⟨Nat.zero_le _, Nat.zero_le _⟩) rfl ?_
  refine cv_imul (q := 17) C dX1_keyOf_16 rfl ?_
  refine cv_aload_n (i := 0) (q := 18) 1 C dX1_keyOf_17 rfl rfl rfl ?_
  refine cv_iload_n (i := 2) (q := 19) 0 C dX1_keyOf_18 rfl rfl rfl ?_
  refine cv_iconst (v := 2) (q := 20) C dX1_keyOf_19 (by decide) rfl ?_
  refine cv_iadd (q := 21) C dX1_keyOf_20 rfl ?_
  obtain ⟨r3, hr3, hm⟩ := cv_bd_s hm
  refine cv_goW (q := 24) C (KX1_digit (l := l) (σ := σ) (D := D) (cy := cy)  q  S (x1 + (2 : Int32)) hr3) (cv_rv (As := [.int (x1 + (2 : Int32))]) (st := [.int ((10 : Int32) * r2)]) (n := 1) (q0 := 0) (ci := 1) C (KX1_digit (l := l) (σ := σ) (D := D) (cy := cy)  q  S (x1 + (2 : Int32)) hr3) rfl rfl gX1_keyOf_X1_digit rfl ⟨rfl, rfl⟩ (by decide +kernel) rfl ⟨Nat.le_of_ble_eq_true rfl, Nat.le_of_ble_eq_true rfl⟩ rfl (Nat.le_of_ble_eq_true rfl) dX1_keyOf_21 ⟨Nat.zero_le _, Nat.zero_le _⟩) rfl ?_
  refine cv_iadd (q := 25) C dX1_keyOf_24 rfl ?_
  obtain rfl := Option.some.inj hm
  exact cv_iret C hr hk dX1_keyOf_25
def fX1_valueOf (S : SX1) (a1 : Int32) : Option (Int32) :=
  cv_bd (fX1_digit S (((5 : Int32) + (a1 * (6 : Int32))) + (4 : Int32))) fun r1 =>
  some r1
abbrev rX1_valueOf : Room := { frames := 2, cells := 0, slots := 0, locals := 42 }
set_option maxHeartbeats 4000000 in
set_option maxRecDepth 100000 in
theorem KX1_valueOf {l : Launch} {σ : Nat → Nat} {D : va_G} {cy : ClassId} (q : Nat → Nat) (S : SX1) (a1 : Int32) {res : Int32} (hm : fX1_valueOf S a1 = some res) : cv_M l yX1_valueOf wsX1_valueOf rX1_valueOf σ D [(cy, .int)] [.ref (q 0), .int a1] (wX1 q cy S) (some (.int res)) (wX1 q cy S) := by
  unfold fX1_valueOf at hm
  refine cv_M.of (own := RX1) (by decide +kernel) rfl rfl (lv := [(0, .ref (q 0)), (1, .int a1)]) rfl (Nat.le_of_ble_eq_true rfl) ?_
  intro p e s m args below meth c A C hr hk
  refine cv_aload_n (i := 0) (q := 1) 0 C dX1_valueOf_0 rfl rfl rfl ?_
  refine cv_iconst (v := 5) (q := 2) C dX1_valueOf_1 (by decide) rfl ?_
  refine cv_iload_n (i := 1) (q := 3) 1 C dX1_valueOf_2 rfl rfl rfl ?_
  refine cv_bipush (v := 6) (q := 5) C dX1_valueOf_3 (by decide) rfl ?_
  refine cv_imul (q := 6) C dX1_valueOf_5 rfl ?_
  refine cv_iadd (q := 7) C dX1_valueOf_6 rfl ?_
  refine cv_iconst (v := 4) (q := 8) C dX1_valueOf_7 (by decide) rfl ?_
  refine cv_iadd (q := 9) C dX1_valueOf_8 rfl ?_
  obtain ⟨r1, hr1, hm⟩ := cv_bd_s hm
  refine cv_goW (q := 12) C (KX1_digit (l := l) (σ := σ) (D := D) (cy := cy)  q  S (((5 : Int32) + (a1 * (6 : Int32))) + (4 : Int32)) hr1) (cv_rv (As := [.int (((5 : Int32) + (a1 * (6 : Int32))) + (4 : Int32))]) (st := []) (n := 1) (q0 := 0) (ci := 1) C (KX1_digit (l := l) (σ := σ) (D := D) (cy := cy)  q  S (((5 : Int32) + (a1 * (6 : Int32))) + (4 : Int32)) hr1) rfl rfl gX1_valueOf_X1_digit rfl ⟨rfl, rfl⟩ (by decide +kernel) rfl ⟨Nat.le_of_ble_eq_true rfl, Nat.le_of_ble_eq_true rfl⟩ rfl (Nat.le_of_ble_eq_true rfl) dX1_valueOf_9 ⟨Nat.zero_le _, Nat.zero_le _⟩) rfl ?_
  obtain rfl := Option.some.inj hm
  exact cv_iret C hr hk dX1_valueOf_12
