def fX6_enter_L49 (S : SX6) (u1 : Int32) : Nat → Int32 → Option (Int32)
  | 0, _ => none
  | n + 1, y4 =>
    if y4 = (-1 : Int32) then
      (
      some y4
      )
    else
      (
      cv_bd (fX6_isLopsided S u1 y4) fun r9 =>
      if r9 = 0 then
        (
        cv_gd (0 ≤ ((((100 : Int32) * u1) + y4)).toInt ∧ ((((100 : Int32) * u1) + y4)).toInt < 200) <|
        cv_lt (((gX6_above S) ((((100 : Int32) * u1) + y4)).toNatClampNeg)) fun x12 =>
        fX6_enter_L49 S u1 n x12
        )
      else
        (
        some y4
        )
      )
def fX6_enter (S : SX6) (a1 : Int32) (a2 : Int32) : Option (SX6) :=
  cv_bd (fX6_insert S a1 a2) fun r1 =>
  cv_lt (sX6_builtNow r1 (0 : Int32)) fun s2 =>
  cv_bd (fX6_depth s2 a1 a2) fun r3 =>
  cv_bd (fX6_pay s2 a1 ((gX6_fee s2) * (r3 + (1 : Int32)))) fun r4 =>
  cv_gd (0 ≤ (a1).toInt ∧ (a1).toInt < 2) <|
  cv_bd (fX6_limit r4 a1 ((gX6_many r4) (a1).toNatClampNeg)) fun r6 =>
  if r3 ≤ r6 then
    (
    some r4
    )
  else
    (
    cv_bd (fX6_enter_L49 r4 a1 256 a2) fun j13 =>
    if j13 = (-1 : Int32) then
      (
      some r4
      )
    else
      (
      cv_bd (fX6_build r4 a1 j13) fun r16 =>
      some r16
      )
    )
abbrev rX6_enter : Room := { frames := 3, cells := 0, slots := 0, locals := 78 }
theorem iX6_enter_X6 : ∀ w ∈ u_ws RX6 TX6 50, w ∈ wsX6_enter := fun w h => List.mem_cons_of_mem _ (List.mem_append_right _ h)
set_option maxHeartbeats 4000000 in
set_option maxRecDepth 100000 in
theorem vX6_enter_L49 {p : Program} {l : Launch} {e : Env} {s : State} {m : MethodId} {args : Array Value} {below : List Frame} {meth : Method} {c : Code} {σ : Nat → Nat} {D : va_G} {A : Nat → Prop} {cy : ClassId} (q : Nat → Nat) (S : SX6) (u1 : Int32) (C : cv_C p s m args c cX6_enter 5 RX6 wsX6_enter σ D [(cy, .int)] A) {Q : State → Prop} {j : Int32} : ∀ (n : Nat) (y4 : Int32), fX6_enter_L49 S u1 n y4 = some j → cv_V p l e rX6_enter s m args below meth c 5 D A Q 0 0 (wX6 q cy S) 82 [(0, .ref (q 0)), (1, .int u1), (4, .int j)] [] → cv_V p l e rX6_enter s m args below meth c 5 D A Q 0 0 (wX6 q cy S) 49 [(0, .ref (q 0)), (1, .int u1), (4, .int y4)] [] := by
  intro n
  induction n with
  | zero => intro y4 hm kx; cases hm
  | succ n ih =>
    intro y4 hm kx
    have hm : fX6_enter_L49 S u1 (n + 1) y4 = some j := hm
    unfold fX6_enter_L49 at hm
    refine cv_iload (i := 4) (q := 51) 2 C dX6_enter_49 rfl rfl ?_
    refine cv_iconst (v := -1) (q := 52) C dX6_enter_51 (by decide) rfl ?_
    refine cv_icmp_eq (tgt := 82) (q := 55) C dX6_enter_52 (by decide) rfl (fun h8 => ?_) (fun h8 => ?_)
    · have hm := cv_if_t h8 hm
      obtain rfl := Option.some.inj hm
      exact kx
    · have hm := cv_if_f h8 hm
      refine cv_aload_n (i := 0) (q := 56) 0 C dX6_enter_55 rfl rfl rfl ?_
      refine cv_iload_n (i := 1) (q := 57) 1 C dX6_enter_56 rfl rfl rfl ?_
      refine cv_iload (i := 4) (q := 59) 2 C dX6_enter_57 rfl rfl ?_
      obtain ⟨r9, hr9, hm⟩ := cv_bd_s hm
      refine cv_goW (q := 62) C (KX6_isLopsided (l := l) (σ := σ) (D := D) (cy := cy)  q  S u1 y4 hr9) (cv_rv (As := [.int u1, .int y4]) (st := []) (n := 2) (q0 := 0) (ci := 6) C (KX6_isLopsided (l := l) (σ := σ) (D := D) (cy := cy)  q  S u1 y4 hr9) rfl rfl gX6_enter_X6_isLopsided rfl ⟨rfl, rfl⟩ (by decide +kernel) rfl ⟨Nat.le_of_ble_eq_true rfl, Nat.le_of_ble_eq_true rfl⟩ rfl (Nat.le_of_ble_eq_true rfl) dX6_enter_59 ⟨Nat.zero_le _, Nat.zero_le _⟩) rfl ?_
      refine cv_if_ne (tgt := 82) (q := 65) C dX6_enter_62 (by decide) rfl (fun h10 => ?_) (fun h10 => ?_)
      · have hm := cv_if_f h10 hm
        obtain rfl := Option.some.inj hm
        exact kx
      · have hm := cv_if_t h10 hm
        refine cv_aload_n (i := 0) (q := 66) 0 C dX6_enter_65 rfl rfl rfl ?_
        refine cv_get (q := 69) C iX6_enter_X6 0 rfl rfl 4 (by decide) (List.mem_of_getElem? (i := 4) rfl) rfl rfl dX6_enter_66 rfl ?_
        refine cv_bipush (v := 100) (q := 71) C dX6_enter_69 (by decide) rfl ?_
        refine cv_iload_n (i := 1) (q := 72) 1 C dX6_enter_71 rfl rfl rfl ?_
        refine cv_imul (q := 73) C dX6_enter_72 rfl ?_
        refine cv_iload (i := 4) (q := 75) 2 C dX6_enter_73 rfl rfl ?_
        refine cv_iadd (q := 76) C dX6_enter_75 rfl ?_
        obtain ⟨g11, hm⟩ := cv_gd_s hm
        refine cv_iald (q := 77) C 4 0 rfl rfl (vp_in_iff.mpr g11) dX6_enter_76 rfl ?_
        obtain ⟨x12, ex12, hm⟩ := cv_lt_s hm
        refine cv_topi ex12 ?_
        refine cv_istore (i := 4) (lv' := [(4, .int x12), (0, .ref (q 0)), (1, .int u1)]) (q := 79) C dX6_enter_77 (by decide) rfl rfl ?_
        refine cv_goto (tgt := 49) C dX6_enter_79 (by decide) ?_
        refine cv_sub [1, 2, 0] rfl ?_
        exact ih x12 hm kx
set_option maxHeartbeats 4000000 in
set_option maxRecDepth 100000 in
theorem KX6_enter {l : Launch} {σ : Nat → Nat} {D : va_G} {cy : ClassId} (q : Nat → Nat) (S : SX6) (a1 : Int32) (a2 : Int32) {res : SX6} (hm : fX6_enter S a1 a2 = some res) : cv_M l yX6_enter wsX6_enter rX6_enter σ D [(cy, .int)] [.ref (q 0), .int a1, .int a2] (wX6 q cy S) none (wX6 q cy res) := by
  unfold fX6_enter at hm
  refine cv_M.of (own := RX6) (by decide +kernel) rfl rfl (lv := [(0, .ref (q 0)), (1, .int a1), (2, .int a2)]) rfl (Nat.le_of_ble_eq_true rfl) ?_
  intro p e s m args below meth c A C hr hk
  refine cv_aload_n (i := 0) (q := 1) 0 C dX6_enter_0 rfl rfl rfl ?_
  refine cv_iload_n (i := 1) (q := 2) 1 C dX6_enter_1 rfl rfl rfl ?_
  refine cv_iload_n (i := 2) (q := 3) 2 C dX6_enter_2 rfl rfl rfl ?_
  obtain ⟨r1, hr1, hm⟩ := cv_bd_s hm
  refine cv_goW (q := 6) C (KX6_insert (l := l) (σ := σ) (D := D) (cy := cy)  q  S a1 a2 hr1) (cv_rv (As := [.int a1, .int a2]) (st := []) (n := 2) (q0 := 0) (ci := 6) C (KX6_insert (l := l) (σ := σ) (D := D) (cy := cy)  q  S a1 a2 hr1) rfl rfl gX6_enter_X6_insert rfl ⟨rfl, rfl⟩ (by decide +kernel) rfl ⟨Nat.le_of_ble_eq_true rfl, Nat.le_of_ble_eq_true rfl⟩ rfl (Nat.le_of_ble_eq_true rfl) dX6_enter_3 ⟨Nat.zero_le _, Nat.zero_le _⟩) rfl ?_
  refine cv_aload_n (i := 0) (q := 7) 0 C dX6_enter_6 rfl rfl rfl ?_
  refine cv_iconst (v := 0) (q := 8) C dX6_enter_7 (by decide) rfl ?_
  obtain ⟨s2, es2, hm⟩ := cv_lt_s hm
  refine cv_put (q := 11) (ws' := (wX6 q cy s2)) C iX6_enter_X6 tyX6 tyX6_ok nmX6 0 rfl rfl 9 (by decide) (List.mem_of_getElem? (i := 1) rfl) rfl rfl rfl rfl rfl (Nat.le_of_ble_eq_true rfl) dX6_enter_8 rfl (by rw [es2]; rfl) ?_
  refine cv_aload_n (i := 0) (q := 12) 0 C dX6_enter_11 rfl rfl rfl ?_
  refine cv_iload_n (i := 1) (q := 13) 1 C dX6_enter_12 rfl rfl rfl ?_
  refine cv_iload_n (i := 2) (q := 14) 2 C dX6_enter_13 rfl rfl rfl ?_
  obtain ⟨r3, hr3, hm⟩ := cv_bd_s hm
  refine cv_goW (q := 17) C (KX6_depth (l := l) (σ := σ) (D := D) (cy := cy)  q  s2 a1 a2 hr3) (cv_rv (As := [.int a1, .int a2]) (st := []) (n := 2) (q0 := 0) (ci := 6) C (KX6_depth (l := l) (σ := σ) (D := D) (cy := cy)  q  s2 a1 a2 hr3) rfl rfl gX6_enter_X6_depth rfl ⟨rfl, rfl⟩ (by decide +kernel) rfl ⟨Nat.le_of_ble_eq_true rfl, Nat.le_of_ble_eq_true rfl⟩ rfl (Nat.le_of_ble_eq_true rfl) dX6_enter_14 ⟨Nat.zero_le _, Nat.zero_le _⟩) rfl ?_
  refine cv_istore_n (i := 3) (lv' := [(3, .int r3), (0, .ref (q 0)), (1, .int a1), (2, .int a2)]) (q := 18) C dX6_enter_17 rfl (by decide) rfl rfl ?_
  refine cv_aload_n (i := 0) (q := 19) 1 C dX6_enter_18 rfl rfl rfl ?_
  refine cv_iload_n (i := 1) (q := 20) 2 C dX6_enter_19 rfl rfl rfl ?_
  refine cv_aload_n (i := 0) (q := 21) 1 C dX6_enter_20 rfl rfl rfl ?_
  refine cv_get (q := 24) C iX6_enter_X6 0 rfl rfl 18 (by decide) (List.mem_of_getElem? (i := 2) rfl) rfl rfl dX6_enter_21 rfl ?_
  refine cv_iload_n (i := 3) (q := 25) 0 C dX6_enter_24 rfl rfl rfl ?_
  refine cv_iconst (v := 1) (q := 26) C dX6_enter_25 (by decide) rfl ?_
  refine cv_iadd (q := 27) C dX6_enter_26 rfl ?_
  refine cv_imul (q := 28) C dX6_enter_27 rfl ?_
  obtain ⟨r4, hr4, hm⟩ := cv_bd_s hm
  refine cv_goW (q := 31) C (KX6_pay (l := l) (σ := σ) (D := D) (cy := cy)  q  s2 a1 ((gX6_fee s2) * (r3 + (1 : Int32))) hr4) (cv_rv (As := [.int a1, .int ((gX6_fee s2) * (r3 + (1 : Int32)))]) (st := []) (n := 2) (q0 := 0) (ci := 6) C (KX6_pay (l := l) (σ := σ) (D := D) (cy := cy)  q  s2 a1 ((gX6_fee s2) * (r3 + (1 : Int32))) hr4) rfl rfl gX6_enter_X6_pay rfl ⟨rfl, rfl⟩ (by decide +kernel) rfl ⟨Nat.le_of_ble_eq_true rfl, Nat.le_of_ble_eq_true rfl⟩ rfl (Nat.le_of_ble_eq_true rfl) dX6_enter_28 ⟨Nat.zero_le _, Nat.zero_le _⟩) rfl ?_
  refine cv_iload_n (i := 3) (q := 32) 0 C dX6_enter_31 rfl rfl rfl ?_
  refine cv_aload_n (i := 0) (q := 33) 1 C dX6_enter_32 rfl rfl rfl ?_
  refine cv_iload_n (i := 1) (q := 34) 2 C dX6_enter_33 rfl rfl rfl ?_
  refine cv_aload_n (i := 0) (q := 35) 1 C dX6_enter_34 rfl rfl rfl ?_
  refine cv_get (q := 38) C iX6_enter_X6 0 rfl rfl 7 (by decide) (List.mem_of_getElem? (i := 3) rfl) rfl rfl dX6_enter_35 rfl ?_
  refine cv_iload_n (i := 1) (q := 39) 2 C dX6_enter_38 rfl rfl rfl ?_
  obtain ⟨g5, hm⟩ := cv_gd_s hm
  refine cv_iald (q := 40) C 7 0 rfl rfl (vp_in_iff.mpr g5) dX6_enter_39 rfl ?_
  obtain ⟨r6, hr6, hm⟩ := cv_bd_s hm
  refine cv_goW (q := 43) C (KX6_limit (l := l) (σ := σ) (D := D) (cy := cy)  q  r4 a1 ((gX6_many r4) (a1).toNatClampNeg) hr6) (cv_rv (As := [.int a1, .int ((gX6_many r4) (a1).toNatClampNeg)]) (st := [.int r3]) (n := 2) (q0 := 0) (ci := 6) C (KX6_limit (l := l) (σ := σ) (D := D) (cy := cy)  q  r4 a1 ((gX6_many r4) (a1).toNatClampNeg) hr6) rfl rfl gX6_enter_X6_limit rfl ⟨rfl, rfl⟩ (by decide +kernel) rfl ⟨Nat.le_of_ble_eq_true rfl, Nat.le_of_ble_eq_true rfl⟩ rfl (Nat.le_of_ble_eq_true rfl) dX6_enter_40 ⟨Nat.zero_le _, Nat.zero_le _⟩) rfl ?_
  refine cv_icmp_le (tgt := 95) (q := 46) C dX6_enter_43 (by decide) rfl (fun h7 => ?_) (fun h7 => ?_)
  · have hm := cv_if_t h7 hm
    obtain rfl := Option.some.inj hm
    exact cv_vret C hr hk dX6_enter_95
  · have hm := cv_if_f h7 hm
    refine cv_iload_n (i := 2) (q := 47) 3 C dX6_enter_46 rfl rfl rfl ?_
    refine cv_istore (i := 4) (lv' := [(4, .int a2), (3, .int r3), (0, .ref (q 0)), (1, .int a1), (2, .int a2)]) (q := 49) C dX6_enter_47 (by decide) rfl rfl ?_
    obtain ⟨j13, hj13, hm⟩ := cv_bd_s hm
    refine cv_cut (ws' := (wX6 q cy r4)) (pc' := 82) (lv' := [(0, .ref (q 0)), (1, .int a1), (4, .int j13)]) (st' := []) ?_ (fun K14 => ?_)
    · refine cv_iload (i := 4) (q := 84) 2 C dX6_enter_82 rfl rfl ?_
      refine cv_iconst (v := -1) (q := 85) C dX6_enter_84 (by decide) rfl ?_
      refine cv_icmp_eq (tgt := 95) (q := 88) C dX6_enter_85 (by decide) rfl (fun h15 => ?_) (fun h15 => ?_)
      · have hm := cv_if_t h15 hm
        obtain rfl := Option.some.inj hm
        exact cv_vret C hr hk dX6_enter_95
      · have hm := cv_if_f h15 hm
        refine cv_aload_n (i := 0) (q := 89) 0 C dX6_enter_88 rfl rfl rfl ?_
        refine cv_iload_n (i := 1) (q := 90) 1 C dX6_enter_89 rfl rfl rfl ?_
        refine cv_iload (i := 4) (q := 92) 2 C dX6_enter_90 rfl rfl ?_
        obtain ⟨r16, hr16, hm⟩ := cv_bd_s hm
        refine cv_goW (q := 95) C (KX6_build (l := l) (σ := σ) (D := D) (cy := cy)  q  r4 a1 j13 hr16) (cv_rv (As := [.int a1, .int j13]) (st := []) (n := 2) (q0 := 0) (ci := 6) C (KX6_build (l := l) (σ := σ) (D := D) (cy := cy)  q  r4 a1 j13 hr16) rfl rfl gX6_enter_X6_build rfl ⟨rfl, rfl⟩ (by decide +kernel) rfl ⟨Nat.le_of_ble_eq_true rfl, Nat.le_of_ble_eq_true rfl⟩ rfl (Nat.le_of_ble_eq_true rfl) dX6_enter_92 ⟨Nat.zero_le _, Nat.zero_le _⟩) rfl ?_
        obtain rfl := Option.some.inj hm
        exact cv_vret C hr hk dX6_enter_95
    · refine cv_sub [2, 3, 0] rfl ?_
      exact vX6_enter_L49 q r4 a1 C 256 a2 hj13 K14
def fX6_unhang (S : SX6) (a1 : Int32) (a2 : Int32) : Option (SX6) :=
  cv_gd (0 ≤ ((((100 : Int32) * a1) + a2)).toInt ∧ ((((100 : Int32) * a1) + a2)).toInt < 200) <|
  cv_bd (
    if ((gX6_left S) ((((100 : Int32) * a1) + a2)).toNatClampNeg) = (-1 : Int32) then
      (
      cv_gd (0 ≤ ((((100 : Int32) * a1) + a2)).toInt ∧ ((((100 : Int32) * a1) + a2)).toInt < 200) <|
      some ((gX6_right S) ((((100 : Int32) * a1) + a2)).toNatClampNeg)
      )
    else
      (
      cv_gd (0 ≤ ((((100 : Int32) * a1) + a2)).toInt ∧ ((((100 : Int32) * a1) + a2)).toInt < 200) <|
      some ((gX6_left S) ((((100 : Int32) * a1) + a2)).toNatClampNeg)
      )
  ) fun j2 =>
  cv_bd (fX6_replace S a1 a2 j2) fun r4 =>
  some r4
abbrev rX6_unhang : Room := { frames := 2, cells := 0, slots := 0, locals := 47 }
theorem iX6_unhang_X6 : ∀ w ∈ u_ws RX6 TX6 50, w ∈ wsX6_unhang := fun w h => List.mem_cons_of_mem _ (List.mem_append_right _ h)
set_option maxHeartbeats 4000000 in
set_option maxRecDepth 100000 in
theorem KX6_unhang {l : Launch} {σ : Nat → Nat} {D : va_G} {cy : ClassId} (q : Nat → Nat) (S : SX6) (a1 : Int32) (a2 : Int32) {res : SX6} (hm : fX6_unhang S a1 a2 = some res) : cv_M l yX6_unhang wsX6_unhang rX6_unhang σ D [(cy, .int)] [.ref (q 0), .int a1, .int a2] (wX6 q cy S) none (wX6 q cy res) := by
  unfold fX6_unhang at hm
  refine cv_M.of (own := RX6) (by decide +kernel) rfl rfl (lv := [(0, .ref (q 0)), (1, .int a1), (2, .int a2)]) rfl (Nat.le_of_ble_eq_true rfl) ?_
  intro p e s m args below meth c A C hr hk
  refine cv_aload_n (i := 0) (q := 1) 0 C dX6_unhang_0 rfl rfl rfl ?_
  refine cv_get (q := 4) C iX6_unhang_X6 0 rfl rfl 2 (by decide) (List.mem_of_getElem? (i := 1) rfl) rfl rfl dX6_unhang_1 rfl ?_
  refine cv_bipush (v := 100) (q := 6) C dX6_unhang_4 (by decide) rfl ?_
  refine cv_iload_n (i := 1) (q := 7) 1 C dX6_unhang_6 rfl rfl rfl ?_
  refine cv_imul (q := 8) C dX6_unhang_7 rfl ?_
  refine cv_iload_n (i := 2) (q := 9) 2 C dX6_unhang_8 rfl rfl rfl ?_
  refine cv_iadd (q := 10) C dX6_unhang_9 rfl ?_
  obtain ⟨g1, hm⟩ := cv_gd_s hm
  refine cv_iald (q := 11) C 2 0 rfl rfl (vp_in_iff.mpr g1) dX6_unhang_10 rfl ?_
  refine cv_iconst (v := -1) (q := 12) C dX6_unhang_11 (by decide) rfl ?_
  obtain ⟨j2, hj2, hm⟩ := cv_bd_s hm
  refine cv_cut (ws' := (wX6 q cy S)) (pc' := 40) (lv' := [(0, .ref (q 0)), (1, .int a1), (2, .int a2)]) (st' := [.int j2]) ?_ (fun K3 => ?_)
  · refine cv_istore_n (i := 3) (lv' := [(3, .int j2), (0, .ref (q 0)), (1, .int a1), (2, .int a2)]) (q := 41) C dX6_unhang_40 rfl (by decide) rfl rfl ?_
    refine cv_aload_n (i := 0) (q := 42) 1 C dX6_unhang_41 rfl rfl rfl ?_
    refine cv_iload_n (i := 1) (q := 43) 2 C dX6_unhang_42 rfl rfl rfl ?_
    refine cv_iload_n (i := 2) (q := 44) 3 C dX6_unhang_43 rfl rfl rfl ?_
    refine cv_iload_n (i := 3) (q := 45) 0 C dX6_unhang_44 rfl rfl rfl ?_
    obtain ⟨r4, hr4, hm⟩ := cv_bd_s hm
    refine cv_goW (q := 48) C (KX6_replace (l := l) (σ := σ) (D := D) (cy := cy)  q  S a1 a2 j2 hr4) (cv_rv (As := [.int a1, .int a2, .int j2]) (st := []) (n := 3) (q0 := 0) (ci := 6) C (KX6_replace (l := l) (σ := σ) (D := D) (cy := cy)  q  S a1 a2 j2 hr4) rfl rfl gX6_unhang_X6_replace rfl ⟨rfl, rfl⟩ (by decide +kernel) rfl ⟨Nat.le_of_ble_eq_true rfl, Nat.le_of_ble_eq_true rfl⟩ rfl (Nat.le_of_ble_eq_true rfl) dX6_unhang_45 ⟨Nat.zero_le _, Nat.zero_le _⟩) rfl ?_
    obtain rfl := Option.some.inj hm
    exact cv_vret C hr hk dX6_unhang_48
  · have hm := hj2
    refine cv_icmp_ne (tgt := 29) (q := 15) C dX6_unhang_12 (by decide) rfl (fun h5 => ?_) (fun h5 => ?_)
    · have hm := cv_if_f h5 hm
      refine cv_aload_n (i := 0) (q := 30) 0 C dX6_unhang_29 rfl rfl rfl ?_
      refine cv_get (q := 33) C iX6_unhang_X6 0 rfl rfl 2 (by decide) (List.mem_of_getElem? (i := 1) rfl) rfl rfl dX6_unhang_30 rfl ?_
      refine cv_bipush (v := 100) (q := 35) C dX6_unhang_33 (by decide) rfl ?_
      refine cv_iload_n (i := 1) (q := 36) 1 C dX6_unhang_35 rfl rfl rfl ?_
      refine cv_imul (q := 37) C dX6_unhang_36 rfl ?_
      refine cv_iload_n (i := 2) (q := 38) 2 C dX6_unhang_37 rfl rfl rfl ?_
      refine cv_iadd (q := 39) C dX6_unhang_38 rfl ?_
      obtain ⟨g6, hm⟩ := cv_gd_s hm
      refine cv_iald (q := 40) C 2 0 rfl rfl (vp_in_iff.mpr g6) dX6_unhang_39 rfl ?_
      obtain rfl := Option.some.inj hm
      exact K3
    · have hm := cv_if_t h5 hm
      refine cv_aload_n (i := 0) (q := 16) 0 C dX6_unhang_15 rfl rfl rfl ?_
      refine cv_get (q := 19) C iX6_unhang_X6 0 rfl rfl 3 (by decide) (List.mem_of_getElem? (i := 2) rfl) rfl rfl dX6_unhang_16 rfl ?_
      refine cv_bipush (v := 100) (q := 21) C dX6_unhang_19 (by decide) rfl ?_
      refine cv_iload_n (i := 1) (q := 22) 1 C dX6_unhang_21 rfl rfl rfl ?_
      refine cv_imul (q := 23) C dX6_unhang_22 rfl ?_
      refine cv_iload_n (i := 2) (q := 24) 2 C dX6_unhang_23 rfl rfl rfl ?_
      refine cv_iadd (q := 25) C dX6_unhang_24 rfl ?_
      obtain ⟨g7, hm⟩ := cv_gd_s hm
      refine cv_iald (q := 26) C 3 0 rfl rfl (vp_in_iff.mpr g7) dX6_unhang_25 rfl ?_
      refine cv_goto (tgt := 40) C dX6_unhang_26 (by decide) ?_
      obtain rfl := Option.some.inj hm
      exact K3
def fX6_remove_L51 (S : SX6) (u1 : Int32) (u2 : Int32) : Nat → Int32 → Option (Int32)
  | 0, _ => none
  | n + 1, y3 =>
    cv_gd (0 ≤ ((((100 : Int32) * u1) + y3)).toInt ∧ ((((100 : Int32) * u1) + y3)).toInt < 200) <|
    if ((gX6_left S) ((((100 : Int32) * u1) + y3)).toNatClampNeg) = (-1 : Int32) then
      (
      some y3
      )
    else
      (
      cv_gd (0 ≤ ((((100 : Int32) * u1) + y3)).toInt ∧ ((((100 : Int32) * u1) + y3)).toInt < 200) <|
      cv_lt (((gX6_left S) ((((100 : Int32) * u1) + y3)).toNatClampNeg)) fun x11 =>
      fX6_remove_L51 S u1 u2 n x11
      )
def fX6_remove (S : SX6) (a1 : Int32) (a2 : Int32) : Option (SX6) :=
  cv_gd (0 ≤ ((((100 : Int32) * a1) + a2)).toInt ∧ ((((100 : Int32) * a1) + a2)).toInt < 200) <|
  cv_bd (
    if ((gX6_left S) ((((100 : Int32) * a1) + a2)).toNatClampNeg) = (-1 : Int32) then
      (
      cv_bd (fX6_unhang S a1 a2) fun r10 =>
      some r10
      )
    else
      (
      cv_gd (0 ≤ ((((100 : Int32) * a1) + a2)).toInt ∧ ((((100 : Int32) * a1) + a2)).toInt < 200) <|
      if ((gX6_right S) ((((100 : Int32) * a1) + a2)).toNatClampNeg) = (-1 : Int32) then
        (
        cv_bd (fX6_unhang S a1 a2) fun r33 =>
        some r33
        )
      else
        (
        cv_gd (0 ≤ ((((100 : Int32) * a1) + a2)).toInt ∧ ((((100 : Int32) * a1) + a2)).toInt < 200) <|
        cv_lt (((gX6_right S) ((((100 : Int32) * a1) + a2)).toNatClampNeg)) fun x14 =>
        cv_bd (fX6_remove_L51 S a1 a2 256 x14) fun j15 =>
        cv_bd (fX6_unhang S a1 j15) fun r17 =>
        cv_gd (0 ≤ ((((100 : Int32) * a1) + a2)).toInt ∧ ((((100 : Int32) * a1) + a2)).toInt < 200) <|
        cv_gd (0 ≤ ((((100 : Int32) * a1) + j15)).toInt ∧ ((((100 : Int32) * a1) + j15)).toInt < 200) <|
        cv_lt (sX6_left r17 (upd (gX6_left r17) ((((100 : Int32) * a1) + j15)).toNatClampNeg ((gX6_left r17) ((((100 : Int32) * a1) + a2)).toNatClampNeg))) fun s20 =>
        cv_gd (0 ≤ ((((100 : Int32) * a1) + a2)).toInt ∧ ((((100 : Int32) * a1) + a2)).toInt < 200) <|
        cv_gd (0 ≤ ((((100 : Int32) * a1) + j15)).toInt ∧ ((((100 : Int32) * a1) + j15)).toInt < 200) <|
        cv_lt (sX6_right s20 (upd (gX6_right s20) ((((100 : Int32) * a1) + j15)).toNatClampNeg ((gX6_right s20) ((((100 : Int32) * a1) + a2)).toNatClampNeg))) fun s23 =>
        cv_gd (0 ≤ ((((100 : Int32) * a1) + j15)).toInt ∧ ((((100 : Int32) * a1) + j15)).toInt < 200) <|
        cv_bd (fX6_hang s23 a1 ((gX6_left s23) ((((100 : Int32) * a1) + j15)).toNatClampNeg) j15) fun r25 =>
        cv_gd (0 ≤ ((((100 : Int32) * a1) + j15)).toInt ∧ ((((100 : Int32) * a1) + j15)).toInt < 200) <|
        cv_bd (
          if ((gX6_right r25) ((((100 : Int32) * a1) + j15)).toNatClampNeg) = (-1 : Int32) then
            (
            some r25
            )
          else
            (
            cv_gd (0 ≤ ((((100 : Int32) * a1) + j15)).toInt ∧ ((((100 : Int32) * a1) + j15)).toInt < 200) <|
            cv_bd (fX6_hang r25 a1 ((gX6_right r25) ((((100 : Int32) * a1) + j15)).toNatClampNeg) j15) fun r32 =>
            some r32
            )
        ) fun j27 =>
        cv_bd (fX6_replace j27 a1 a2 j15) fun r29 =>
        some r29
        )
      )
  ) fun j2 =>
  cv_gd (0 ≤ ((((100 : Int32) * a1) + a2)).toInt ∧ ((((100 : Int32) * a1) + a2)).toInt < 200) <|
  cv_lt (sX6_there j2 (upd (gX6_there j2) ((((100 : Int32) * a1) + a2)).toNatClampNeg (0 : Int32))) fun s5 =>
  cv_gd (0 ≤ (a1).toInt ∧ (a1).toInt < 2) <|
  cv_gd (0 ≤ (a1).toInt ∧ (a1).toInt < 2) <|
  cv_lt (sX6_many s5 (upd (gX6_many s5) (a1).toNatClampNeg (((gX6_many s5) (a1).toNatClampNeg) - (1 : Int32)))) fun s8 =>
  some s8
abbrev rX6_remove : Room := { frames := 3, cells := 0, slots := 0, locals := 70 }
theorem iX6_remove_X6 : ∀ w ∈ u_ws RX6 TX6 50, w ∈ wsX6_remove := fun w h => List.mem_cons_of_mem _ (List.mem_append_right _ h)
set_option maxHeartbeats 4000000 in
set_option maxRecDepth 100000 in
theorem vX6_remove_L51 {p : Program} {l : Launch} {e : Env} {s : State} {m : MethodId} {args : Array Value} {below : List Frame} {meth : Method} {c : Code} {σ : Nat → Nat} {D : va_G} {A : Nat → Prop} {cy : ClassId} (q : Nat → Nat) (S : SX6) (u1 : Int32) (u2 : Int32) (C : cv_C p s m args c cX6_remove 4 RX6 wsX6_remove σ D [(cy, .int)] A) {Q : State → Prop} {j : Int32} : ∀ (n : Nat) (y3 : Int32), fX6_remove_L51 S u1 u2 n y3 = some j → cv_V p l e rX6_remove s m args below meth c 4 D A Q 0 0 (wX6 q cy S) 81 [(0, .ref (q 0)), (1, .int u1), (2, .int u2), (3, .int j)] [] → cv_V p l e rX6_remove s m args below meth c 4 D A Q 0 0 (wX6 q cy S) 51 [(0, .ref (q 0)), (1, .int u1), (2, .int u2), (3, .int y3)] [] := by
  intro n
  induction n with
  | zero => intro y3 hm kx; cases hm
  | succ n ih =>
    intro y3 hm kx
    have hm : fX6_remove_L51 S u1 u2 (n + 1) y3 = some j := hm
    unfold fX6_remove_L51 at hm
    refine cv_aload_n (i := 0) (q := 52) 0 C dX6_remove_51 rfl rfl rfl ?_
    refine cv_get (q := 55) C iX6_remove_X6 0 rfl rfl 2 (by decide) (List.mem_of_getElem? (i := 1) rfl) rfl rfl dX6_remove_52 rfl ?_
    refine cv_bipush (v := 100) (q := 57) C dX6_remove_55 (by decide) rfl ?_
    refine cv_iload_n (i := 1) (q := 58) 1 C dX6_remove_57 rfl rfl rfl ?_
    refine cv_imul (q := 59) C dX6_remove_58 rfl ?_
    refine cv_iload_n (i := 3) (q := 60) 3 C dX6_remove_59 rfl rfl rfl ?_
    refine cv_iadd (q := 61) C dX6_remove_60 rfl ?_
    obtain ⟨g8, hm⟩ := cv_gd_s hm
    refine cv_iald (q := 62) C 2 0 rfl rfl (vp_in_iff.mpr g8) dX6_remove_61 rfl ?_
    refine cv_iconst (v := -1) (q := 63) C dX6_remove_62 (by decide) rfl ?_
    refine cv_icmp_eq (tgt := 81) (q := 66) C dX6_remove_63 (by decide) rfl (fun h9 => ?_) (fun h9 => ?_)
    · have hm := cv_if_t h9 hm
      obtain rfl := Option.some.inj hm
      exact kx
    · have hm := cv_if_f h9 hm
      refine cv_aload_n (i := 0) (q := 67) 0 C dX6_remove_66 rfl rfl rfl ?_
      refine cv_get (q := 70) C iX6_remove_X6 0 rfl rfl 2 (by decide) (List.mem_of_getElem? (i := 1) rfl) rfl rfl dX6_remove_67 rfl ?_
      refine cv_bipush (v := 100) (q := 72) C dX6_remove_70 (by decide) rfl ?_
      refine cv_iload_n (i := 1) (q := 73) 1 C dX6_remove_72 rfl rfl rfl ?_
      refine cv_imul (q := 74) C dX6_remove_73 rfl ?_
      refine cv_iload_n (i := 3) (q := 75) 3 C dX6_remove_74 rfl rfl rfl ?_
      refine cv_iadd (q := 76) C dX6_remove_75 rfl ?_
      obtain ⟨g10, hm⟩ := cv_gd_s hm
      refine cv_iald (q := 77) C 2 0 rfl rfl (vp_in_iff.mpr g10) dX6_remove_76 rfl ?_
      obtain ⟨x11, ex11, hm⟩ := cv_lt_s hm
      refine cv_topi ex11 ?_
      refine cv_istore_n (i := 3) (lv' := [(3, .int x11), (0, .ref (q 0)), (1, .int u1), (2, .int u2)]) (q := 78) C dX6_remove_77 rfl (by decide) rfl rfl ?_
      refine cv_goto (tgt := 51) C dX6_remove_78 (by decide) ?_
      refine cv_sub [1, 2, 3, 0] rfl ?_
      exact ih x11 hm kx
set_option maxHeartbeats 4000000 in
set_option maxRecDepth 100000 in
theorem KX6_remove {l : Launch} {σ : Nat → Nat} {D : va_G} {cy : ClassId} (q : Nat → Nat) (S : SX6) (a1 : Int32) (a2 : Int32) {res : SX6} (hm : fX6_remove S a1 a2 = some res) : cv_M l yX6_remove wsX6_remove rX6_remove σ D [(cy, .int)] [.ref (q 0), .int a1, .int a2] (wX6 q cy S) none (wX6 q cy res) := by
  unfold fX6_remove at hm
  refine cv_M.of (own := RX6) (by decide +kernel) rfl rfl (lv := [(0, .ref (q 0)), (1, .int a1), (2, .int a2)]) rfl (Nat.le_of_ble_eq_true rfl) ?_
  intro p e s m args below meth c A C hr hk
  refine cv_aload_n (i := 0) (q := 1) 0 C dX6_remove_0 rfl rfl rfl ?_
  refine cv_get (q := 4) C iX6_remove_X6 0 rfl rfl 2 (by decide) (List.mem_of_getElem? (i := 1) rfl) rfl rfl dX6_remove_1 rfl ?_
  refine cv_bipush (v := 100) (q := 6) C dX6_remove_4 (by decide) rfl ?_
  refine cv_iload_n (i := 1) (q := 7) 1 C dX6_remove_6 rfl rfl rfl ?_
  refine cv_imul (q := 8) C dX6_remove_7 rfl ?_
  refine cv_iload_n (i := 2) (q := 9) 2 C dX6_remove_8 rfl rfl rfl ?_
  refine cv_iadd (q := 10) C dX6_remove_9 rfl ?_
  obtain ⟨g1, hm⟩ := cv_gd_s hm
  refine cv_iald (q := 11) C 2 0 rfl rfl (vp_in_iff.mpr g1) dX6_remove_10 rfl ?_
  refine cv_iconst (v := -1) (q := 12) C dX6_remove_11 (by decide) rfl ?_
  obtain ⟨j2, hj2, hm⟩ := cv_bd_s hm
  refine cv_cut (ws' := (wX6 q cy j2)) (pc' := 187) (lv' := [(0, .ref (q 0)), (1, .int a1), (2, .int a2)]) (st' := []) ?_ (fun K3 => ?_)
  · refine cv_aload_n (i := 0) (q := 188) 0 C dX6_remove_187 rfl rfl rfl ?_
    refine cv_get (q := 191) C iX6_remove_X6 0 rfl rfl 5 (by decide) (List.mem_of_getElem? (i := 3) rfl) rfl rfl dX6_remove_188 rfl ?_
    refine cv_bipush (v := 100) (q := 193) C dX6_remove_191 (by decide) rfl ?_
    refine cv_iload_n (i := 1) (q := 194) 1 C dX6_remove_193 rfl rfl rfl ?_
    refine cv_imul (q := 195) C dX6_remove_194 rfl ?_
    refine cv_iload_n (i := 2) (q := 196) 2 C dX6_remove_195 rfl rfl rfl ?_
    refine cv_iadd (q := 197) C dX6_remove_196 rfl ?_
    refine cv_iconst (v := 0) (q := 198) C dX6_remove_197 (by decide) rfl ?_
    obtain ⟨g4, hm⟩ := cv_gd_s hm
    obtain ⟨s5, es5, hm⟩ := cv_lt_s hm
    refine cv_iast (q := 199) (ws' := (wX6 q cy s5)) C 5 0 rfl rfl (vp_in_iff.mpr g4) dX6_remove_198 rfl (by rw [es5]; rfl) ?_
    refine cv_aload_n (i := 0) (q := 200) 0 C dX6_remove_199 rfl rfl rfl ?_
    refine cv_get (q := 203) C iX6_remove_X6 0 rfl rfl 7 (by decide) (List.mem_of_getElem? (i := 4) rfl) rfl rfl dX6_remove_200 rfl ?_
    refine cv_iload_n (i := 1) (q := 204) 1 C dX6_remove_203 rfl rfl rfl ?_
    refine cv_dup2 (q := 205) C dX6_remove_204 rfl rfl rfl ?_
    obtain ⟨g6, hm⟩ := cv_gd_s hm
    refine cv_iald (q := 206) C 7 0 rfl rfl (vp_in_iff.mpr g6) dX6_remove_205 rfl ?_
    refine cv_iconst (v := 1) (q := 207) C dX6_remove_206 (by decide) rfl ?_
    refine cv_isub (q := 208) C dX6_remove_207 rfl ?_
    obtain ⟨g7, hm⟩ := cv_gd_s hm
    obtain ⟨s8, es8, hm⟩ := cv_lt_s hm
    refine cv_iast (q := 209) (ws' := (wX6 q cy s8)) C 7 0 rfl rfl (vp_in_iff.mpr g7) dX6_remove_208 rfl (by rw [es8]; rfl) ?_
    obtain rfl := Option.some.inj hm
    exact cv_vret C hr hk dX6_remove_209
  · have hm := hj2
    refine cv_icmp_eq (tgt := 30) (q := 15) C dX6_remove_12 (by decide) rfl (fun h9 => ?_) (fun h9 => ?_)
    · have hm := cv_if_t h9 hm
      refine cv_aload_n (i := 0) (q := 31) 0 C dX6_remove_30 rfl rfl rfl ?_
      refine cv_iload_n (i := 1) (q := 32) 1 C dX6_remove_31 rfl rfl rfl ?_
      refine cv_iload_n (i := 2) (q := 33) 2 C dX6_remove_32 rfl rfl rfl ?_
      obtain ⟨r10, hr10, hm⟩ := cv_bd_s hm
      refine cv_goW (q := 36) C (KX6_unhang (l := l) (σ := σ) (D := D) (cy := cy)  q  S a1 a2 hr10) (cv_rv (As := [.int a1, .int a2]) (st := []) (n := 2) (q0 := 0) (ci := 6) C (KX6_unhang (l := l) (σ := σ) (D := D) (cy := cy)  q  S a1 a2 hr10) rfl rfl gX6_remove_X6_unhang rfl ⟨rfl, rfl⟩ (by decide +kernel) rfl ⟨Nat.le_of_ble_eq_true rfl, Nat.le_of_ble_eq_true rfl⟩ rfl (Nat.le_of_ble_eq_true rfl) dX6_remove_33 ⟨Nat.zero_le _, Nat.zero_le _⟩) rfl ?_
      refine cv_goto (tgt := 187) C dX6_remove_36 (by decide) ?_
      obtain rfl := Option.some.inj hm
      exact K3
    · have hm := cv_if_f h9 hm
      refine cv_aload_n (i := 0) (q := 16) 0 C dX6_remove_15 rfl rfl rfl ?_
      refine cv_get (q := 19) C iX6_remove_X6 0 rfl rfl 3 (by decide) (List.mem_of_getElem? (i := 2) rfl) rfl rfl dX6_remove_16 rfl ?_
      refine cv_bipush (v := 100) (q := 21) C dX6_remove_19 (by decide) rfl ?_
      refine cv_iload_n (i := 1) (q := 22) 1 C dX6_remove_21 rfl rfl rfl ?_
      refine cv_imul (q := 23) C dX6_remove_22 rfl ?_
      refine cv_iload_n (i := 2) (q := 24) 2 C dX6_remove_23 rfl rfl rfl ?_
      refine cv_iadd (q := 25) C dX6_remove_24 rfl ?_
      obtain ⟨g11, hm⟩ := cv_gd_s hm
      refine cv_iald (q := 26) C 3 0 rfl rfl (vp_in_iff.mpr g11) dX6_remove_25 rfl ?_
      refine cv_iconst (v := -1) (q := 27) C dX6_remove_26 (by decide) rfl ?_
      refine cv_icmp_ne (tgt := 39) (q := 30) C dX6_remove_27 (by decide) rfl (fun h12 => ?_) (fun h12 => ?_)
      · have hm := cv_if_f h12 hm
        refine cv_aload_n (i := 0) (q := 40) 0 C dX6_remove_39 rfl rfl rfl ?_
        refine cv_get (q := 43) C iX6_remove_X6 0 rfl rfl 3 (by decide) (List.mem_of_getElem? (i := 2) rfl) rfl rfl dX6_remove_40 rfl ?_
        refine cv_bipush (v := 100) (q := 45) C dX6_remove_43 (by decide) rfl ?_
        refine cv_iload_n (i := 1) (q := 46) 1 C dX6_remove_45 rfl rfl rfl ?_
        refine cv_imul (q := 47) C dX6_remove_46 rfl ?_
        refine cv_iload_n (i := 2) (q := 48) 2 C dX6_remove_47 rfl rfl rfl ?_
        refine cv_iadd (q := 49) C dX6_remove_48 rfl ?_
        obtain ⟨g13, hm⟩ := cv_gd_s hm
        refine cv_iald (q := 50) C 3 0 rfl rfl (vp_in_iff.mpr g13) dX6_remove_49 rfl ?_
        obtain ⟨x14, ex14, hm⟩ := cv_lt_s hm
        refine cv_topi ex14 ?_
        refine cv_istore_n (i := 3) (lv' := [(3, .int x14), (0, .ref (q 0)), (1, .int a1), (2, .int a2)]) (q := 51) C dX6_remove_50 rfl (by decide) rfl rfl ?_
        obtain ⟨j15, hj15, hm⟩ := cv_bd_s hm
        refine cv_cut (ws' := (wX6 q cy S)) (pc' := 81) (lv' := [(0, .ref (q 0)), (1, .int a1), (2, .int a2), (3, .int j15)]) (st' := []) ?_ (fun K16 => ?_)
        · refine cv_aload_n (i := 0) (q := 82) 0 C dX6_remove_81 rfl rfl rfl ?_
          refine cv_iload_n (i := 1) (q := 83) 1 C dX6_remove_82 rfl rfl rfl ?_
          refine cv_iload_n (i := 3) (q := 84) 3 C dX6_remove_83 rfl rfl rfl ?_
          obtain ⟨r17, hr17, hm⟩ := cv_bd_s hm
          refine cv_goW (q := 87) C (KX6_unhang (l := l) (σ := σ) (D := D) (cy := cy)  q  S a1 j15 hr17) (cv_rv (As := [.int a1, .int j15]) (st := []) (n := 2) (q0 := 0) (ci := 6) C (KX6_unhang (l := l) (σ := σ) (D := D) (cy := cy)  q  S a1 j15 hr17) rfl rfl gX6_remove_X6_unhang rfl ⟨rfl, rfl⟩ (by decide +kernel) rfl ⟨Nat.le_of_ble_eq_true rfl, Nat.le_of_ble_eq_true rfl⟩ rfl (Nat.le_of_ble_eq_true rfl) dX6_remove_84 ⟨Nat.zero_le _, Nat.zero_le _⟩) rfl ?_
          refine cv_aload_n (i := 0) (q := 88) 0 C dX6_remove_87 rfl rfl rfl ?_
          refine cv_get (q := 91) C iX6_remove_X6 0 rfl rfl 2 (by decide) (List.mem_of_getElem? (i := 1) rfl) rfl rfl dX6_remove_88 rfl ?_
          refine cv_bipush (v := 100) (q := 93) C dX6_remove_91 (by decide) rfl ?_
          refine cv_iload_n (i := 1) (q := 94) 1 C dX6_remove_93 rfl rfl rfl ?_
          refine cv_imul (q := 95) C dX6_remove_94 rfl ?_
          refine cv_iload_n (i := 3) (q := 96) 3 C dX6_remove_95 rfl rfl rfl ?_
          refine cv_iadd (q := 97) C dX6_remove_96 rfl ?_
          refine cv_aload_n (i := 0) (q := 98) 0 C dX6_remove_97 rfl rfl rfl ?_
          refine cv_get (q := 101) C iX6_remove_X6 0 rfl rfl 2 (by decide) (List.mem_of_getElem? (i := 1) rfl) rfl rfl dX6_remove_98 rfl ?_
          refine cv_bipush (v := 100) (q := 103) C dX6_remove_101 (by decide) rfl ?_
          refine cv_iload_n (i := 1) (q := 104) 1 C dX6_remove_103 rfl rfl rfl ?_
          refine cv_imul (q := 105) C dX6_remove_104 rfl ?_
          refine cv_iload_n (i := 2) (q := 106) 2 C dX6_remove_105 rfl rfl rfl ?_
          refine cv_iadd (q := 107) C dX6_remove_106 rfl ?_
          obtain ⟨g18, hm⟩ := cv_gd_s hm
          refine cv_iald (q := 108) C 2 0 rfl rfl (vp_in_iff.mpr g18) dX6_remove_107 rfl ?_
          obtain ⟨g19, hm⟩ := cv_gd_s hm
          obtain ⟨s20, es20, hm⟩ := cv_lt_s hm
          refine cv_iast (q := 109) (ws' := (wX6 q cy s20)) C 2 0 rfl rfl (vp_in_iff.mpr g19) dX6_remove_108 rfl (by rw [es20]; rfl) ?_
          refine cv_aload_n (i := 0) (q := 110) 0 C dX6_remove_109 rfl rfl rfl ?_
          refine cv_get (q := 113) C iX6_remove_X6 0 rfl rfl 3 (by decide) (List.mem_of_getElem? (i := 2) rfl) rfl rfl dX6_remove_110 rfl ?_
          refine cv_bipush (v := 100) (q := 115) C dX6_remove_113 (by decide) rfl ?_
          refine cv_iload_n (i := 1) (q := 116) 1 C dX6_remove_115 rfl rfl rfl ?_
          refine cv_imul (q := 117) C dX6_remove_116 rfl ?_
          refine cv_iload_n (i := 3) (q := 118) 3 C dX6_remove_117 rfl rfl rfl ?_
          refine cv_iadd (q := 119) C dX6_remove_118 rfl ?_
          refine cv_aload_n (i := 0) (q := 120) 0 C dX6_remove_119 rfl rfl rfl ?_
          refine cv_get (q := 123) C iX6_remove_X6 0 rfl rfl 3 (by decide) (List.mem_of_getElem? (i := 2) rfl) rfl rfl dX6_remove_120 rfl ?_
          refine cv_bipush (v := 100) (q := 125) C dX6_remove_123 (by decide) rfl ?_
          refine cv_iload_n (i := 1) (q := 126) 1 C dX6_remove_125 rfl rfl rfl ?_
          refine cv_imul (q := 127) C dX6_remove_126 rfl ?_
          refine cv_iload_n (i := 2) (q := 128) 2 C dX6_remove_127 rfl rfl rfl ?_
          refine cv_iadd (q := 129) C dX6_remove_128 rfl ?_
          obtain ⟨g21, hm⟩ := cv_gd_s hm
          refine cv_iald (q := 130) C 3 0 rfl rfl (vp_in_iff.mpr g21) dX6_remove_129 rfl ?_
          obtain ⟨g22, hm⟩ := cv_gd_s hm
          obtain ⟨s23, es23, hm⟩ := cv_lt_s hm
          refine cv_iast (q := 131) (ws' := (wX6 q cy s23)) C 3 0 rfl rfl (vp_in_iff.mpr g22) dX6_remove_130 rfl (by rw [es23]; rfl) ?_
          refine cv_aload_n (i := 0) (q := 132) 0 C dX6_remove_131 rfl rfl rfl ?_
          refine cv_iload_n (i := 1) (q := 133) 1 C dX6_remove_132 rfl rfl rfl ?_
          refine cv_aload_n (i := 0) (q := 134) 0 C dX6_remove_133 rfl rfl rfl ?_
          refine cv_get (q := 137) C iX6_remove_X6 0 rfl rfl 2 (by decide) (List.mem_of_getElem? (i := 1) rfl) rfl rfl dX6_remove_134 rfl ?_
          refine cv_bipush (v := 100) (q := 139) C dX6_remove_137 (by decide) rfl ?_
          refine cv_iload_n (i := 1) (q := 140) 1 C dX6_remove_139 rfl rfl rfl ?_
          refine cv_imul (q := 141) C dX6_remove_140 rfl ?_
          refine cv_iload_n (i := 3) (q := 142) 3 C dX6_remove_141 rfl rfl rfl ?_
          refine cv_iadd (q := 143) C dX6_remove_142 rfl ?_
          obtain ⟨g24, hm⟩ := cv_gd_s hm
          refine cv_iald (q := 144) C 2 0 rfl rfl (vp_in_iff.mpr g24) dX6_remove_143 rfl ?_
          refine cv_iload_n (i := 3) (q := 145) 3 C dX6_remove_144 rfl rfl rfl ?_
          obtain ⟨r25, hr25, hm⟩ := cv_bd_s hm
          refine cv_goW (q := 148) C (KX6_hang (l := l) (σ := σ) (D := D) (cy := cy)  q  s23 a1 ((gX6_left s23) ((((100 : Int32) * a1) + j15)).toNatClampNeg) j15 hr25) (cv_rv (As := [.int a1, .int ((gX6_left s23) ((((100 : Int32) * a1) + j15)).toNatClampNeg), .int j15]) (st := []) (n := 3) (q0 := 0) (ci := 6) C (KX6_hang (l := l) (σ := σ) (D := D) (cy := cy)  q  s23 a1 ((gX6_left s23) ((((100 : Int32) * a1) + j15)).toNatClampNeg) j15 hr25) rfl rfl gX6_remove_X6_hang rfl ⟨rfl, rfl⟩ (by decide +kernel) rfl ⟨Nat.le_of_ble_eq_true rfl, Nat.le_of_ble_eq_true rfl⟩ rfl (Nat.le_of_ble_eq_true rfl) dX6_remove_145 ⟨Nat.zero_le _, Nat.zero_le _⟩) rfl ?_
          refine cv_aload_n (i := 0) (q := 149) 0 C dX6_remove_148 rfl rfl rfl ?_
          refine cv_get (q := 152) C iX6_remove_X6 0 rfl rfl 3 (by decide) (List.mem_of_getElem? (i := 2) rfl) rfl rfl dX6_remove_149 rfl ?_
          refine cv_bipush (v := 100) (q := 154) C dX6_remove_152 (by decide) rfl ?_
          refine cv_iload_n (i := 1) (q := 155) 1 C dX6_remove_154 rfl rfl rfl ?_
          refine cv_imul (q := 156) C dX6_remove_155 rfl ?_
          refine cv_iload_n (i := 3) (q := 157) 3 C dX6_remove_156 rfl rfl rfl ?_
          refine cv_iadd (q := 158) C dX6_remove_157 rfl ?_
          obtain ⟨g26, hm⟩ := cv_gd_s hm
          refine cv_iald (q := 159) C 3 0 rfl rfl (vp_in_iff.mpr g26) dX6_remove_158 rfl ?_
          refine cv_iconst (v := -1) (q := 160) C dX6_remove_159 (by decide) rfl ?_
          obtain ⟨j27, hj27, hm⟩ := cv_bd_s hm
          refine cv_cut (ws' := (wX6 q cy j27)) (pc' := 180) (lv' := [(0, .ref (q 0)), (1, .int a1), (2, .int a2), (3, .int j15)]) (st' := []) ?_ (fun K28 => ?_)
          · refine cv_aload_n (i := 0) (q := 181) 0 C dX6_remove_180 rfl rfl rfl ?_
            refine cv_iload_n (i := 1) (q := 182) 1 C dX6_remove_181 rfl rfl rfl ?_
            refine cv_iload_n (i := 2) (q := 183) 2 C dX6_remove_182 rfl rfl rfl ?_
            refine cv_iload_n (i := 3) (q := 184) 3 C dX6_remove_183 rfl rfl rfl ?_
            obtain ⟨r29, hr29, hm⟩ := cv_bd_s hm
            refine cv_goW (q := 187) C (KX6_replace (l := l) (σ := σ) (D := D) (cy := cy)  q  j27 a1 a2 j15 hr29) (cv_rv (As := [.int a1, .int a2, .int j15]) (st := []) (n := 3) (q0 := 0) (ci := 6) C (KX6_replace (l := l) (σ := σ) (D := D) (cy := cy)  q  j27 a1 a2 j15 hr29) rfl rfl gX6_remove_X6_replace rfl ⟨rfl, rfl⟩ (by decide +kernel) rfl ⟨Nat.le_of_ble_eq_true rfl, Nat.le_of_ble_eq_true rfl⟩ rfl (Nat.le_of_ble_eq_true rfl) dX6_remove_184 ⟨Nat.zero_le _, Nat.zero_le _⟩) rfl ?_
            obtain rfl := Option.some.inj hm
            refine cv_sub [0, 1, 2] rfl ?_
            exact K3
          · have hm := hj27
            refine cv_icmp_eq (tgt := 180) (q := 163) C dX6_remove_160 (by decide) rfl (fun h30 => ?_) (fun h30 => ?_)
            · have hm := cv_if_t h30 hm
              obtain rfl := Option.some.inj hm
              exact K28
            · have hm := cv_if_f h30 hm
              refine cv_aload_n (i := 0) (q := 164) 0 C dX6_remove_163 rfl rfl rfl ?_
              refine cv_iload_n (i := 1) (q := 165) 1 C dX6_remove_164 rfl rfl rfl ?_
              refine cv_aload_n (i := 0) (q := 166) 0 C dX6_remove_165 rfl rfl rfl ?_
              refine cv_get (q := 169) C iX6_remove_X6 0 rfl rfl 3 (by decide) (List.mem_of_getElem? (i := 2) rfl) rfl rfl dX6_remove_166 rfl ?_
              refine cv_bipush (v := 100) (q := 171) C dX6_remove_169 (by decide) rfl ?_
              refine cv_iload_n (i := 1) (q := 172) 1 C dX6_remove_171 rfl rfl rfl ?_
              refine cv_imul (q := 173) C dX6_remove_172 rfl ?_
              refine cv_iload_n (i := 3) (q := 174) 3 C dX6_remove_173 rfl rfl rfl ?_
              refine cv_iadd (q := 175) C dX6_remove_174 rfl ?_
              obtain ⟨g31, hm⟩ := cv_gd_s hm
              refine cv_iald (q := 176) C 3 0 rfl rfl (vp_in_iff.mpr g31) dX6_remove_175 rfl ?_
              refine cv_iload_n (i := 3) (q := 177) 3 C dX6_remove_176 rfl rfl rfl ?_
              obtain ⟨r32, hr32, hm⟩ := cv_bd_s hm
              refine cv_goW (q := 180) C (KX6_hang (l := l) (σ := σ) (D := D) (cy := cy)  q  r25 a1 ((gX6_right r25) ((((100 : Int32) * a1) + j15)).toNatClampNeg) j15 hr32) (cv_rv (As := [.int a1, .int ((gX6_right r25) ((((100 : Int32) * a1) + j15)).toNatClampNeg), .int j15]) (st := []) (n := 3) (q0 := 0) (ci := 6) C (KX6_hang (l := l) (σ := σ) (D := D) (cy := cy)  q  r25 a1 ((gX6_right r25) ((((100 : Int32) * a1) + j15)).toNatClampNeg) j15 hr32) rfl rfl gX6_remove_X6_hang rfl ⟨rfl, rfl⟩ (by decide +kernel) rfl ⟨Nat.le_of_ble_eq_true rfl, Nat.le_of_ble_eq_true rfl⟩ rfl (Nat.le_of_ble_eq_true rfl) dX6_remove_177 ⟨Nat.zero_le _, Nat.zero_le _⟩) rfl ?_
              obtain rfl := Option.some.inj hm
              exact K28
        · refine cv_sub [1, 2, 3, 0] rfl ?_
          exact vX6_remove_L51 q S a1 a2 C 256 x14 hj15 K16
      · have hm := cv_if_t h12 hm
        refine cv_aload_n (i := 0) (q := 31) 0 C dX6_remove_30 rfl rfl rfl ?_
        refine cv_iload_n (i := 1) (q := 32) 1 C dX6_remove_31 rfl rfl rfl ?_
        refine cv_iload_n (i := 2) (q := 33) 2 C dX6_remove_32 rfl rfl rfl ?_
        obtain ⟨r33, hr33, hm⟩ := cv_bd_s hm
        refine cv_goW (q := 36) C (KX6_unhang (l := l) (σ := σ) (D := D) (cy := cy)  q  S a1 a2 hr33) (cv_rv (As := [.int a1, .int a2]) (st := []) (n := 2) (q0 := 0) (ci := 6) C (KX6_unhang (l := l) (σ := σ) (D := D) (cy := cy)  q  S a1 a2 hr33) rfl rfl gX6_remove_X6_unhang rfl ⟨rfl, rfl⟩ (by decide +kernel) rfl ⟨Nat.le_of_ble_eq_true rfl, Nat.le_of_ble_eq_true rfl⟩ rfl (Nat.le_of_ble_eq_true rfl) dX6_remove_33 ⟨Nat.zero_le _, Nat.zero_le _⟩) rfl ?_
        refine cv_goto (tgt := 187) C dX6_remove_36 (by decide) ?_
        obtain rfl := Option.some.inj hm
        exact K3
def fX6_leave (S : SX6) (a1 : Int32) (a2 : Int32) : Option (SX6) :=
  cv_bd (fX6_depth S a1 a2) fun r1 =>
  cv_bd (fX6_pay S a1 ((gX6_fee S) * (r1 + (1 : Int32)))) fun r2 =>
  cv_bd (fX6_remove r2 a1 a2) fun r3 =>
  cv_lt (sX6_builtNow r3 (0 : Int32)) fun s4 =>
  cv_gd (0 ≤ (a1).toInt ∧ (a1).toInt < 2) <|
  cv_bd (
    if ((gX6_many s4) (a1).toNatClampNeg) ≤ 0 then
      (
      some s4
      )
    else
      (
      cv_bd (fX6_b s4 a1) fun r16 =>
      cv_gd (0 ≤ (a1).toInt ∧ (a1).toInt < 2) <|
      cv_bd (fX6_a s4 a1) fun r18 =>
      cv_gd (0 ≤ (a1).toInt ∧ (a1).toInt < 2) <|
      if (r18 * ((gX6_most s4) (a1).toNatClampNeg)) ≤ (r16 * ((gX6_many s4) (a1).toNatClampNeg)) then
        (
        some s4
        )
      else
        (
        cv_gd (0 ≤ (a1).toInt ∧ (a1).toInt < 2) <|
        cv_bd (fX6_build s4 a1 ((gX6_root s4) (a1).toNatClampNeg)) fun r22 =>
        cv_gd (0 ≤ (a1).toInt ∧ (a1).toInt < 2) <|
        cv_gd (0 ≤ (a1).toInt ∧ (a1).toInt < 2) <|
        cv_lt (sX6_most r22 (upd (gX6_most r22) (a1).toNatClampNeg ((gX6_many r22) (a1).toNatClampNeg))) fun s25 =>
        some s25
        )
      )
  ) fun j6 =>
  cv_gd (0 ≤ (a1).toInt ∧ (a1).toInt < 2) <|
  if ((gX6_many j6) (a1).toNatClampNeg) = 0 then
    (
    cv_gd (0 ≤ (a1).toInt ∧ (a1).toInt < 2) <|
    cv_lt (sX6_most j6 (upd (gX6_most j6) (a1).toNatClampNeg (0 : Int32))) fun s14 =>
    some s14
    )
  else
    (
    cv_gd (0 ≤ (a1).toInt ∧ (a1).toInt < 2) <|
    cv_gd (0 ≤ (a1).toInt ∧ (a1).toInt < 2) <|
    cv_lt (sX6_most j6 (upd (gX6_most j6) (a1).toNatClampNeg ((gX6_most j6) (a1).toNatClampNeg))) fun s12 =>
    some s12
    )
abbrev rX6_leave : Room := { frames := 4, cells := 0, slots := 0, locals := 93 }
theorem iX6_leave_X6 : ∀ w ∈ u_ws RX6 TX6 50, w ∈ wsX6_leave := fun w h => List.mem_cons_of_mem _ (List.mem_append_right _ h)
set_option maxHeartbeats 4000000 in
set_option maxRecDepth 100000 in
theorem KX6_leave {l : Launch} {σ : Nat → Nat} {D : va_G} {cy : ClassId} (q : Nat → Nat) (S : SX6) (a1 : Int32) (a2 : Int32) {res : SX6} (hm : fX6_leave S a1 a2 = some res) : cv_M l yX6_leave wsX6_leave rX6_leave σ D [(cy, .int)] [.ref (q 0), .int a1, .int a2] (wX6 q cy S) none (wX6 q cy res) := by
  unfold fX6_leave at hm
  refine cv_M.of (own := RX6) (by decide +kernel) rfl rfl (lv := [(0, .ref (q 0)), (1, .int a1), (2, .int a2)]) rfl (Nat.le_of_ble_eq_true rfl) ?_
  intro p e s m args below meth c A C hr hk
  refine cv_aload_n (i := 0) (q := 1) 0 C dX6_leave_0 rfl rfl rfl ?_
  refine cv_iload_n (i := 1) (q := 2) 1 C dX6_leave_1 rfl rfl rfl ?_
  refine cv_aload_n (i := 0) (q := 3) 0 C dX6_leave_2 rfl rfl rfl ?_
  refine cv_get (q := 6) C iX6_leave_X6 0 rfl rfl 18 (by decide) (List.mem_of_getElem? (i := 1) rfl) rfl rfl dX6_leave_3 rfl ?_
  refine cv_aload_n (i := 0) (q := 7) 0 C dX6_leave_6 rfl rfl rfl ?_
  refine cv_iload_n (i := 1) (q := 8) 1 C dX6_leave_7 rfl rfl rfl ?_
  refine cv_iload_n (i := 2) (q := 9) 2 C dX6_leave_8 rfl rfl rfl ?_
  obtain ⟨r1, hr1, hm⟩ := cv_bd_s hm
  refine cv_goW (q := 12) C (KX6_depth (l := l) (σ := σ) (D := D) (cy := cy)  q  S a1 a2 hr1) (cv_rv (As := [.int a1, .int a2]) (st := [.int (gX6_fee S), .int a1, .ref (q 0)]) (n := 2) (q0 := 0) (ci := 6) C (KX6_depth (l := l) (σ := σ) (D := D) (cy := cy)  q  S a1 a2 hr1) rfl rfl gX6_leave_X6_depth rfl ⟨rfl, rfl⟩ (by decide +kernel) rfl ⟨Nat.le_of_ble_eq_true rfl, Nat.le_of_ble_eq_true rfl⟩ rfl (Nat.le_of_ble_eq_true rfl) dX6_leave_9 ⟨Nat.zero_le _, Nat.zero_le _⟩) rfl ?_
  refine cv_iconst (v := 1) (q := 13) C dX6_leave_12 (by decide) rfl ?_
  refine cv_iadd (q := 14) C dX6_leave_13 rfl ?_
  refine cv_imul (q := 15) C dX6_leave_14 rfl ?_
  obtain ⟨r2, hr2, hm⟩ := cv_bd_s hm
  refine cv_goW (q := 18) C (KX6_pay (l := l) (σ := σ) (D := D) (cy := cy)  q  S a1 ((gX6_fee S) * (r1 + (1 : Int32))) hr2) (cv_rv (As := [.int a1, .int ((gX6_fee S) * (r1 + (1 : Int32)))]) (st := []) (n := 2) (q0 := 0) (ci := 6) C (KX6_pay (l := l) (σ := σ) (D := D) (cy := cy)  q  S a1 ((gX6_fee S) * (r1 + (1 : Int32))) hr2) rfl rfl gX6_leave_X6_pay rfl ⟨rfl, rfl⟩ (by decide +kernel) rfl ⟨Nat.le_of_ble_eq_true rfl, Nat.le_of_ble_eq_true rfl⟩ rfl (Nat.le_of_ble_eq_true rfl) dX6_leave_15 ⟨Nat.zero_le _, Nat.zero_le _⟩) rfl ?_
  refine cv_aload_n (i := 0) (q := 19) 0 C dX6_leave_18 rfl rfl rfl ?_
  refine cv_iload_n (i := 1) (q := 20) 1 C dX6_leave_19 rfl rfl rfl ?_
  refine cv_iload_n (i := 2) (q := 21) 2 C dX6_leave_20 rfl rfl rfl ?_
  obtain ⟨r3, hr3, hm⟩ := cv_bd_s hm
  refine cv_goW (q := 24) C (KX6_remove (l := l) (σ := σ) (D := D) (cy := cy)  q  r2 a1 a2 hr3) (cv_rv (As := [.int a1, .int a2]) (st := []) (n := 2) (q0 := 0) (ci := 6) C (KX6_remove (l := l) (σ := σ) (D := D) (cy := cy)  q  r2 a1 a2 hr3) rfl rfl gX6_leave_X6_remove rfl ⟨rfl, rfl⟩ (by decide +kernel) rfl ⟨Nat.le_of_ble_eq_true rfl, Nat.le_of_ble_eq_true rfl⟩ rfl (Nat.le_of_ble_eq_true rfl) dX6_leave_21 ⟨Nat.zero_le _, Nat.zero_le _⟩) rfl ?_
  refine cv_aload_n (i := 0) (q := 25) 0 C dX6_leave_24 rfl rfl rfl ?_
  refine cv_iconst (v := 0) (q := 26) C dX6_leave_25 (by decide) rfl ?_
  obtain ⟨s4, es4, hm⟩ := cv_lt_s hm
  refine cv_put (q := 29) (ws' := (wX6 q cy s4)) C iX6_leave_X6 tyX6 tyX6_ok nmX6 0 rfl rfl 9 (by decide) (List.mem_of_getElem? (i := 2) rfl) rfl rfl rfl rfl rfl (Nat.le_of_ble_eq_true rfl) dX6_leave_26 rfl (by rw [es4]; rfl) ?_
  refine cv_aload_n (i := 0) (q := 30) 0 C dX6_leave_29 rfl rfl rfl ?_
  refine cv_get (q := 33) C iX6_leave_X6 0 rfl rfl 7 (by decide) (List.mem_of_getElem? (i := 3) rfl) rfl rfl dX6_leave_30 rfl ?_
  refine cv_iload_n (i := 1) (q := 34) 1 C dX6_leave_33 rfl rfl rfl ?_
  obtain ⟨g5, hm⟩ := cv_gd_s hm
  refine cv_iald (q := 35) C 7 0 rfl rfl (vp_in_iff.mpr g5) dX6_leave_34 rfl ?_
  obtain ⟨j6, hj6, hm⟩ := cv_bd_s hm
  refine cv_cut (ws' := (wX6 q cy j6)) (pc' := 88) (lv' := [(0, .ref (q 0)), (1, .int a1)]) (st' := []) ?_ (fun K7 => ?_)
  · refine cv_aload_n (i := 0) (q := 89) 0 C dX6_leave_88 rfl rfl rfl ?_
    refine cv_get (q := 92) C iX6_leave_X6 0 rfl rfl 8 (by decide) (List.mem_of_getElem? (i := 4) rfl) rfl rfl dX6_leave_89 rfl ?_
    refine cv_iload_n (i := 1) (q := 93) 1 C dX6_leave_92 rfl rfl rfl ?_
    refine cv_aload_n (i := 0) (q := 94) 0 C dX6_leave_93 rfl rfl rfl ?_
    refine cv_get (q := 97) C iX6_leave_X6 0 rfl rfl 7 (by decide) (List.mem_of_getElem? (i := 3) rfl) rfl rfl dX6_leave_94 rfl ?_
    refine cv_iload_n (i := 1) (q := 98) 1 C dX6_leave_97 rfl rfl rfl ?_
    obtain ⟨g8, hm⟩ := cv_gd_s hm
    refine cv_iald (q := 99) C 7 0 rfl rfl (vp_in_iff.mpr g8) dX6_leave_98 rfl ?_
    refine cv_if_ne (tgt := 106) (q := 102) C dX6_leave_99 (by decide) rfl (fun h9 => ?_) (fun h9 => ?_)
    · have hm := cv_if_f h9 hm
      refine cv_aload_n (i := 0) (q := 107) 0 C dX6_leave_106 rfl rfl rfl ?_
      refine cv_get (q := 110) C iX6_leave_X6 0 rfl rfl 8 (by decide) (List.mem_of_getElem? (i := 4) rfl) rfl rfl dX6_leave_107 rfl ?_
      refine cv_iload_n (i := 1) (q := 111) 1 C dX6_leave_110 rfl rfl rfl ?_
      obtain ⟨g10, hm⟩ := cv_gd_s hm
      refine cv_iald (q := 112) C 8 0 rfl rfl (vp_in_iff.mpr g10) dX6_leave_111 rfl ?_
      obtain ⟨g11, hm⟩ := cv_gd_s hm
      obtain ⟨s12, es12, hm⟩ := cv_lt_s hm
      refine cv_iast (q := 113) (ws' := (wX6 q cy s12)) C 8 0 rfl rfl (vp_in_iff.mpr g11) dX6_leave_112 rfl (by rw [es12]; rfl) ?_
      obtain rfl := Option.some.inj hm
      exact cv_vret C hr hk dX6_leave_113
    · have hm := cv_if_t h9 hm
      refine cv_iconst (v := 0) (q := 103) C dX6_leave_102 (by decide) rfl ?_
      refine cv_goto (tgt := 112) C dX6_leave_103 (by decide) ?_
      obtain ⟨g13, hm⟩ := cv_gd_s hm
      obtain ⟨s14, es14, hm⟩ := cv_lt_s hm
      refine cv_iast (q := 113) (ws' := (wX6 q cy s14)) C 8 0 rfl rfl (vp_in_iff.mpr g13) dX6_leave_112 rfl (by rw [es14]; rfl) ?_
      obtain rfl := Option.some.inj hm
      exact cv_vret C hr hk dX6_leave_113
  · have hm := hj6
    refine cv_if_le (tgt := 88) (q := 38) C dX6_leave_35 (by decide) rfl (fun h15 => ?_) (fun h15 => ?_)
    · have hm := cv_if_t h15 hm
      obtain rfl := Option.some.inj hm
      refine cv_sub [0, 1] rfl ?_
      exact K7
    · have hm := cv_if_f h15 hm
      refine cv_aload_n (i := 0) (q := 39) 0 C dX6_leave_38 rfl rfl rfl ?_
      refine cv_iload_n (i := 1) (q := 40) 1 C dX6_leave_39 rfl rfl rfl ?_
      obtain ⟨r16, hr16, hm⟩ := cv_bd_s hm
      refine cv_goW (q := 43) C (KX6_b (l := l) (σ := σ) (D := D) (cy := cy)  q  s4 a1 hr16) (cv_rv (As := [.int a1]) (st := []) (n := 1) (q0 := 0) (ci := 6) C (KX6_b (l := l) (σ := σ) (D := D) (cy := cy)  q  s4 a1 hr16) rfl rfl gX6_leave_X6_b rfl ⟨rfl, rfl⟩ (by decide +kernel) rfl ⟨Nat.le_of_ble_eq_true rfl, Nat.le_of_ble_eq_true rfl⟩ rfl (Nat.le_of_ble_eq_true rfl) dX6_leave_40 ⟨Nat.zero_le _, Nat.zero_le _⟩) rfl ?_
      refine cv_aload_n (i := 0) (q := 44) 0 C dX6_leave_43 rfl rfl rfl ?_
      refine cv_get (q := 47) C iX6_leave_X6 0 rfl rfl 7 (by decide) (List.mem_of_getElem? (i := 3) rfl) rfl rfl dX6_leave_44 rfl ?_
      refine cv_iload_n (i := 1) (q := 48) 1 C dX6_leave_47 rfl rfl rfl ?_
      obtain ⟨g17, hm⟩ := cv_gd_s hm
      refine cv_iald (q := 49) C 7 0 rfl rfl (vp_in_iff.mpr g17) dX6_leave_48 rfl ?_
      refine cv_imul (q := 50) C dX6_leave_49 rfl ?_
      refine cv_aload_n (i := 0) (q := 51) 0 C dX6_leave_50 rfl rfl rfl ?_
      refine cv_iload_n (i := 1) (q := 52) 1 C dX6_leave_51 rfl rfl rfl ?_
      obtain ⟨r18, hr18, hm⟩ := cv_bd_s hm
      refine cv_goW (q := 55) C (KX6_a (l := l) (σ := σ) (D := D) (cy := cy)  q  s4 a1 hr18) (cv_rv (As := [.int a1]) (st := [.int (r16 * ((gX6_many s4) (a1).toNatClampNeg))]) (n := 1) (q0 := 0) (ci := 6) C (KX6_a (l := l) (σ := σ) (D := D) (cy := cy)  q  s4 a1 hr18) rfl rfl gX6_leave_X6_a rfl ⟨rfl, rfl⟩ (by decide +kernel) rfl ⟨Nat.le_of_ble_eq_true rfl, Nat.le_of_ble_eq_true rfl⟩ rfl (Nat.le_of_ble_eq_true rfl) dX6_leave_52 ⟨Nat.zero_le _, Nat.zero_le _⟩) rfl ?_
      refine cv_aload_n (i := 0) (q := 56) 0 C dX6_leave_55 rfl rfl rfl ?_
      refine cv_get (q := 59) C iX6_leave_X6 0 rfl rfl 8 (by decide) (List.mem_of_getElem? (i := 4) rfl) rfl rfl dX6_leave_56 rfl ?_
      refine cv_iload_n (i := 1) (q := 60) 1 C dX6_leave_59 rfl rfl rfl ?_
      obtain ⟨g19, hm⟩ := cv_gd_s hm
      refine cv_iald (q := 61) C 8 0 rfl rfl (vp_in_iff.mpr g19) dX6_leave_60 rfl ?_
      refine cv_imul (q := 62) C dX6_leave_61 rfl ?_
      refine cv_icmp_ge (tgt := 88) (q := 65) C dX6_leave_62 (by decide) rfl (fun h20 => ?_) (fun h20 => ?_)
      · have hm := cv_if_t h20 hm
        obtain rfl := Option.some.inj hm
        refine cv_sub [0, 1] rfl ?_
        exact K7
      · have hm := cv_if_f h20 hm
        refine cv_aload_n (i := 0) (q := 66) 0 C dX6_leave_65 rfl rfl rfl ?_
        refine cv_iload_n (i := 1) (q := 67) 1 C dX6_leave_66 rfl rfl rfl ?_
        refine cv_aload_n (i := 0) (q := 68) 0 C dX6_leave_67 rfl rfl rfl ?_
        refine cv_get (q := 71) C iX6_leave_X6 0 rfl rfl 6 (by decide) (List.mem_of_getElem? (i := 5) rfl) rfl rfl dX6_leave_68 rfl ?_
        refine cv_iload_n (i := 1) (q := 72) 1 C dX6_leave_71 rfl rfl rfl ?_
        obtain ⟨g21, hm⟩ := cv_gd_s hm
        refine cv_iald (q := 73) C 6 0 rfl rfl (vp_in_iff.mpr g21) dX6_leave_72 rfl ?_
        obtain ⟨r22, hr22, hm⟩ := cv_bd_s hm
        refine cv_goW (q := 76) C (KX6_build (l := l) (σ := σ) (D := D) (cy := cy)  q  s4 a1 ((gX6_root s4) (a1).toNatClampNeg) hr22) (cv_rv (As := [.int a1, .int ((gX6_root s4) (a1).toNatClampNeg)]) (st := []) (n := 2) (q0 := 0) (ci := 6) C (KX6_build (l := l) (σ := σ) (D := D) (cy := cy)  q  s4 a1 ((gX6_root s4) (a1).toNatClampNeg) hr22) rfl rfl gX6_leave_X6_build rfl ⟨rfl, rfl⟩ (by decide +kernel) rfl ⟨Nat.le_of_ble_eq_true rfl, Nat.le_of_ble_eq_true rfl⟩ rfl (Nat.le_of_ble_eq_true rfl) dX6_leave_73 ⟨Nat.zero_le _, Nat.zero_le _⟩) rfl ?_
        refine cv_aload_n (i := 0) (q := 77) 0 C dX6_leave_76 rfl rfl rfl ?_
        refine cv_get (q := 80) C iX6_leave_X6 0 rfl rfl 8 (by decide) (List.mem_of_getElem? (i := 4) rfl) rfl rfl dX6_leave_77 rfl ?_
        refine cv_iload_n (i := 1) (q := 81) 1 C dX6_leave_80 rfl rfl rfl ?_
        refine cv_aload_n (i := 0) (q := 82) 0 C dX6_leave_81 rfl rfl rfl ?_
        refine cv_get (q := 85) C iX6_leave_X6 0 rfl rfl 7 (by decide) (List.mem_of_getElem? (i := 3) rfl) rfl rfl dX6_leave_82 rfl ?_
        refine cv_iload_n (i := 1) (q := 86) 1 C dX6_leave_85 rfl rfl rfl ?_
        obtain ⟨g23, hm⟩ := cv_gd_s hm
        refine cv_iald (q := 87) C 7 0 rfl rfl (vp_in_iff.mpr g23) dX6_leave_86 rfl ?_
        obtain ⟨g24, hm⟩ := cv_gd_s hm
        obtain ⟨s25, es25, hm⟩ := cv_lt_s hm
        refine cv_iast (q := 88) (ws' := (wX6 q cy s25)) C 8 0 rfl rfl (vp_in_iff.mpr g24) dX6_leave_87 rfl (by rw [es25]; rfl) ?_
        obtain rfl := Option.some.inj hm
        refine cv_sub [0, 1] rfl ?_
        exact K7
def fX6_write (S : SX6) (a1 : Int32) : Option (SX6) :=
  if (60 : Int32) ≤ (gX6_logMany S) then
    (
    some S
    )
  else
    (
    cv_gd (0 ≤ ((gX6_logMany S)).toInt ∧ ((gX6_logMany S)).toInt < 60) <|
    cv_lt (sX6_log S (upd (gX6_log S) ((gX6_logMany S)).toNatClampNeg a1)) fun s3 =>
    cv_lt (sX6_logMany s3 ((gX6_logMany s3) + (1 : Int32))) fun s4 =>
    some s4
    )
abbrev rX6_write : Room := { frames := 0, cells := 0, slots := 0, locals := 0 }
theorem iX6_write_X6 : ∀ w ∈ u_ws RX6 TX6 50, w ∈ wsX6_write := fun w h => List.mem_cons_of_mem _ (List.mem_append_right _ h)
set_option maxHeartbeats 4000000 in
set_option maxRecDepth 100000 in
theorem KX6_write {l : Launch} {σ : Nat → Nat} {D : va_G} {cy : ClassId} (q : Nat → Nat) (S : SX6) (a1 : Int32) {res : SX6} (hm : fX6_write S a1 = some res) : cv_M l yX6_write wsX6_write rX6_write σ D [(cy, .int)] [.ref (q 0), .int a1] (wX6 q cy S) none (wX6 q cy res) := by
  unfold fX6_write at hm
  refine cv_M.of (own := RX6) (by decide +kernel) rfl rfl (lv := [(0, .ref (q 0)), (1, .int a1)]) rfl (Nat.le_of_ble_eq_true rfl) ?_
  intro p e s m args below meth c A C hr hk
  refine cv_aload_n (i := 0) (q := 1) 0 C dX6_write_0 rfl rfl rfl ?_
  refine cv_get (q := 4) C iX6_write_X6 0 rfl rfl 22 (by decide) (List.mem_of_getElem? (i := 1) rfl) rfl rfl dX6_write_1 rfl ?_
  refine cv_bipush (v := 60) (q := 6) C dX6_write_4 (by decide) rfl ?_
  refine cv_icmp_ge (tgt := 29) (q := 9) C dX6_write_6 (by decide) rfl (fun h1 => ?_) (fun h1 => ?_)
  · have hm := cv_if_t h1 hm
    obtain rfl := Option.some.inj hm
    exact cv_vret C hr hk dX6_write_29
  · have hm := cv_if_f h1 hm
    refine cv_aload_n (i := 0) (q := 10) 0 C dX6_write_9 rfl rfl rfl ?_
    refine cv_get (q := 13) C iX6_write_X6 0 rfl rfl 21 (by decide) (List.mem_of_getElem? (i := 2) rfl) rfl rfl dX6_write_10 rfl ?_
    refine cv_aload_n (i := 0) (q := 14) 0 C dX6_write_13 rfl rfl rfl ?_
    refine cv_get (q := 17) C iX6_write_X6 0 rfl rfl 22 (by decide) (List.mem_of_getElem? (i := 1) rfl) rfl rfl dX6_write_14 rfl ?_
    refine cv_iload_n (i := 1) (q := 18) 1 C dX6_write_17 rfl rfl rfl ?_
    obtain ⟨g2, hm⟩ := cv_gd_s hm
    obtain ⟨s3, es3, hm⟩ := cv_lt_s hm
    refine cv_iast (q := 19) (ws' := (wX6 q cy s3)) C 13 0 rfl rfl (vp_in_iff.mpr g2) dX6_write_18 rfl (by rw [es3]; rfl) ?_
    refine cv_aload_n (i := 0) (q := 20) 0 C dX6_write_19 rfl rfl rfl ?_
    refine cv_dup (q := 21) C dX6_write_20 rfl rfl ?_
    refine cv_get (q := 24) C iX6_write_X6 0 rfl rfl 22 (by decide) (List.mem_of_getElem? (i := 1) rfl) rfl rfl dX6_write_21 rfl ?_
    refine cv_iconst (v := 1) (q := 25) C dX6_write_24 (by decide) rfl ?_
    refine cv_iadd (q := 26) C dX6_write_25 rfl ?_
    obtain ⟨s4, es4, hm⟩ := cv_lt_s hm
    refine cv_put (q := 29) (ws' := (wX6 q cy s4)) C iX6_write_X6 tyX6 tyX6_ok nmX6 0 rfl rfl 22 (by decide) (List.mem_of_getElem? (i := 1) rfl) rfl rfl rfl rfl rfl (Nat.le_of_ble_eq_true rfl) dX6_write_26 rfl (by rw [es4]; rfl) ?_
    obtain rfl := Option.some.inj hm
    exact cv_vret C hr hk dX6_write_29
def fX6_lacks (S : SX6) : Option (Int32) :=
  if (gX6_ratioB S) = 0 then
    (
    some (1 : Int32)
    )
  else
    (
    some (0 : Int32)
    )
abbrev rX6_lacks : Room := { frames := 0, cells := 0, slots := 0, locals := 0 }
theorem iX6_lacks_X6 : ∀ w ∈ u_ws RX6 TX6 50, w ∈ wsX6_lacks := fun w h => List.mem_cons_of_mem _ (List.mem_append_right _ h)
set_option maxHeartbeats 4000000 in
set_option maxRecDepth 100000 in
theorem KX6_lacks {l : Launch} {σ : Nat → Nat} {D : va_G} {cy : ClassId} (q : Nat → Nat) (S : SX6) {res : Int32} (hm : fX6_lacks S = some res) : cv_M l yX6_lacks wsX6_lacks rX6_lacks σ D [(cy, .int)] [.ref (q 0)] (wX6 q cy S) (some (.int res)) (wX6 q cy S) := by
  unfold fX6_lacks at hm
  refine cv_M.of (own := RX6) (by decide +kernel) rfl rfl (lv := [(0, .ref (q 0))]) rfl (Nat.le_of_ble_eq_true rfl) ?_
  intro p e s m args below meth c A C hr hk
  refine cv_aload_n (i := 0) (q := 1) 0 C dX6_lacks_0 rfl rfl rfl ?_
  refine cv_get (q := 4) C iX6_lacks_X6 0 rfl rfl 15 (by decide) (List.mem_of_getElem? (i := 1) rfl) rfl rfl dX6_lacks_1 rfl ?_
  refine cv_if_ne (tgt := 11) (q := 7) C dX6_lacks_4 (by decide) rfl (fun h1 => ?_) (fun h1 => ?_)
  · have hm := cv_if_f h1 hm
    refine cv_iconst (v := 0) (q := 12) C dX6_lacks_11 (by decide) rfl ?_
    obtain rfl := Option.some.inj hm
    exact cv_zret C hr hk (cv_bool (Or.inl rfl)) dX6_lacks_12
  · have hm := cv_if_t h1 hm
    refine cv_iconst (v := 1) (q := 8) C dX6_lacks_7 (by decide) rfl ?_
    refine cv_goto (tgt := 12) C dX6_lacks_8 (by decide) ?_
    obtain rfl := Option.some.inj hm
    exact cv_zret C hr hk (cv_bool (Or.inr rfl)) dX6_lacks_12
def fX6_putNew (S : SX6) (a1 : Int32) (a2 : Int32) (a3 : Int32) : Option (SX6) :=
  cv_gd (0 ≤ (a2).toInt ∧ (a2).toInt < 100) <|
  cv_lt (sX6_kinds S (upd (gX6_kinds S) (a2).toNatClampNeg a1)) fun s2 =>
  cv_gd (0 ≤ (a2).toInt ∧ (a2).toInt < 100) <|
  cv_lt (sX6_values s2 (upd (gX6_values s2) (a2).toNatClampNeg a3)) fun s4 =>
  cv_bd (fX6_enter s4 (0 : Int32) a2) fun r5 =>
  cv_bd (fX6_write r5 a2) fun r6 =>
  some r6
abbrev rX6_putNew : Room := { frames := 4, cells := 0, slots := 0, locals := 102 }
theorem iX6_putNew_X6 : ∀ w ∈ u_ws RX6 TX6 50, w ∈ wsX6_putNew := fun w h => List.mem_cons_of_mem _ (List.mem_append_right _ h)
set_option maxHeartbeats 4000000 in
set_option maxRecDepth 100000 in
theorem KX6_putNew {l : Launch} {σ : Nat → Nat} {D : va_G} {cy : ClassId} (q : Nat → Nat) (S : SX6) (a1 : Int32) (a2 : Int32) (a3 : Int32) {res : SX6} (hm : fX6_putNew S a1 a2 a3 = some res) : cv_M l yX6_putNew wsX6_putNew rX6_putNew σ D [(cy, .int)] [.ref (q 0), .int a1, .int a2, .int a3] (wX6 q cy S) none (wX6 q cy res) := by
  unfold fX6_putNew at hm
  refine cv_M.of (own := RX6) (by decide +kernel) rfl rfl (lv := [(0, .ref (q 0)), (1, .int a1), (2, .int a2), (3, .int a3)]) rfl (Nat.le_of_ble_eq_true rfl) ?_
  intro p e s m args below meth c A C hr hk
  refine cv_aload_n (i := 0) (q := 1) 0 C dX6_putNew_0 rfl rfl rfl ?_
  refine cv_get (q := 4) C iX6_putNew_X6 0 rfl rfl 12 (by decide) (List.mem_of_getElem? (i := 1) rfl) rfl rfl dX6_putNew_1 rfl ?_
  refine cv_iload_n (i := 2) (q := 5) 2 C dX6_putNew_4 rfl rfl rfl ?_
  refine cv_iload_n (i := 1) (q := 6) 1 C dX6_putNew_5 rfl rfl rfl ?_
  obtain ⟨g1, hm⟩ := cv_gd_s hm
  obtain ⟨s2, es2, hm⟩ := cv_lt_s hm
  refine cv_iast (q := 7) (ws' := (wX6 q cy s2)) C 11 0 rfl rfl (vp_in_iff.mpr g1) dX6_putNew_6 rfl (by rw [es2]; rfl) ?_
  refine cv_aload_n (i := 0) (q := 8) 0 C dX6_putNew_7 rfl rfl rfl ?_
  refine cv_get (q := 11) C iX6_putNew_X6 0 rfl rfl 13 (by decide) (List.mem_of_getElem? (i := 2) rfl) rfl rfl dX6_putNew_8 rfl ?_
  refine cv_iload_n (i := 2) (q := 12) 2 C dX6_putNew_11 rfl rfl rfl ?_
  refine cv_iload_n (i := 3) (q := 13) 3 C dX6_putNew_12 rfl rfl rfl ?_
  obtain ⟨g3, hm⟩ := cv_gd_s hm
  obtain ⟨s4, es4, hm⟩ := cv_lt_s hm
  refine cv_iast (q := 14) (ws' := (wX6 q cy s4)) C 12 0 rfl rfl (vp_in_iff.mpr g3) dX6_putNew_13 rfl (by rw [es4]; rfl) ?_
  refine cv_aload_n (i := 0) (q := 15) 0 C dX6_putNew_14 rfl rfl rfl ?_
  refine cv_iconst (v := 0) (q := 16) C dX6_putNew_15 (by decide) rfl ?_
  refine cv_iload_n (i := 2) (q := 17) 2 C dX6_putNew_16 rfl rfl rfl ?_
  obtain ⟨r5, hr5, hm⟩ := cv_bd_s hm
  refine cv_goW (q := 20) C (KX6_enter (l := l) (σ := σ) (D := D) (cy := cy)  q  s4 (0 : Int32) a2 hr5) (cv_rv (As := [.int (0 : Int32), .int a2]) (st := []) (n := 2) (q0 := 0) (ci := 6) C (KX6_enter (l := l) (σ := σ) (D := D) (cy := cy)  q  s4 (0 : Int32) a2 hr5) rfl rfl gX6_putNew_X6_enter rfl ⟨rfl, rfl⟩ (by decide +kernel) rfl ⟨Nat.le_of_ble_eq_true rfl, Nat.le_of_ble_eq_true rfl⟩ rfl (Nat.le_of_ble_eq_true rfl) dX6_putNew_17 ⟨Nat.zero_le _, Nat.zero_le _⟩) rfl ?_
  refine cv_aload_n (i := 0) (q := 21) 0 C dX6_putNew_20 rfl rfl rfl ?_
  refine cv_iload_n (i := 2) (q := 22) 2 C dX6_putNew_21 rfl rfl rfl ?_
  obtain ⟨r6, hr6, hm⟩ := cv_bd_s hm
  refine cv_goW (q := 25) C (KX6_write (l := l) (σ := σ) (D := D) (cy := cy)  q  r5 a2 hr6) (cv_rv (As := [.int a2]) (st := []) (n := 1) (q0 := 0) (ci := 6) C (KX6_write (l := l) (σ := σ) (D := D) (cy := cy)  q  r5 a2 hr6) rfl rfl gX6_putNew_X6_write rfl ⟨rfl, rfl⟩ (by decide +kernel) rfl ⟨Nat.le_of_ble_eq_true rfl, Nat.le_of_ble_eq_true rfl⟩ rfl (Nat.le_of_ble_eq_true rfl) dX6_putNew_22 ⟨Nat.zero_le _, Nat.zero_le _⟩) rfl ?_
  obtain rfl := Option.some.inj hm
  exact cv_vret C hr hk dX6_putNew_25
def fX6_shelf_L109  : Nat → Int32 → SX6 → Option (SX6)
  | 0, _, _ => none
  | n + 1, y1, S =>
    if (gX6_pageMany S) ≤ y1 then
      (
      some S
      )
    else
      (
      cv_gd (0 ≤ (y1).toInt ∧ (y1).toInt < 54) <|
      cv_bd (fX6_kindBy ((gX6_page S) (y1).toNatClampNeg)) fun r18 =>
      cv_bd (fX6_keyAt S (y1 + (1 : Int32))) fun r19 =>
      cv_gd (0 ≤ ((y1 + (4 : Int32))).toInt ∧ ((y1 + (4 : Int32))).toInt < 54) <|
      cv_bd (fX6_putNew S r18 r19 (((gX6_page S) ((y1 + (4 : Int32))).toNatClampNeg) - (48 : Int32))) fun r21 =>
      cv_lt (y1 + (6 : Int32)) fun x22 =>
      fX6_shelf_L109 n x22 r21
      )
def fX6_shelf (S : SX6) : Option (Int32 × SX6) :=
  if (gX6_pageMany S) < (5 : Int32) then
    (
    some ((-103 : Int32), S)
    )
  else
    (
    cv_bd (fX6_faultOf S) fun r2 =>
    if r2 < (gX6_pageMany S) then
      (
      some ((-103 : Int32), S)
      )
    else
      (
      if (gX6_pageMany S) ≤ (5 : Int32) then
        (
        cv_gd (0 ≤ ((0 : Int32)).toInt ∧ ((0 : Int32)).toInt < 54) <|
        cv_lt (sX6_ratioA S (((gX6_page S) ((0 : Int32)).toNatClampNeg) - (48 : Int32))) fun s6 =>
        cv_gd (0 ≤ ((1 : Int32)).toInt ∧ ((1 : Int32)).toInt < 54) <|
        cv_lt (sX6_ratioB s6 (((gX6_page s6) ((1 : Int32)).toNatClampNeg) - (48 : Int32))) fun s8 =>
        cv_gd (0 ≤ ((3 : Int32)).toInt ∧ ((3 : Int32)).toInt < 54) <|
        cv_lt (sX6_fee s8 (((gX6_page s8) ((3 : Int32)).toNatClampNeg) - (48 : Int32))) fun s10 =>
        cv_bd (fX6_empty s10 (0 : Int32)) fun r11 =>
        cv_lt (sX6_credit r11 (0 : Int32)) fun s12 =>
        cv_lt (sX6_lowest s12 (0 : Int32)) fun s13 =>
        cv_lt (sX6_logMany s13 (0 : Int32)) fun s14 =>
        cv_lt (sX6_seenMany s14 (0 : Int32)) fun s15 =>
        cv_bd (fX6_shelf_L109 256 (5 : Int32) s15) fun j23 =>
        cv_lt (sX6_shelvesRead j23 ((gX6_shelvesRead j23) + (1 : Int32))) fun s25 =>
        cv_lt (sX6_pageMany s25 (0 : Int32)) fun s26 =>
        cv_gd (0 ≤ ((0 : Int32)).toInt ∧ ((0 : Int32)).toInt < 2) <|
        some (((gX6_many s26) ((0 : Int32)).toNatClampNeg), s26)
        )
      else
        (
        if (((gX6_pageMany S) - (5 : Int32)) - ((gX6_pageMany S) - (5 : Int32)) / (6 : Int32) * (6 : Int32)) = (5 : Int32) then
          (
          cv_gd (0 ≤ ((0 : Int32)).toInt ∧ ((0 : Int32)).toInt < 54) <|
          cv_lt (sX6_ratioA S (((gX6_page S) ((0 : Int32)).toNatClampNeg) - (48 : Int32))) fun s30 =>
          cv_gd (0 ≤ ((1 : Int32)).toInt ∧ ((1 : Int32)).toInt < 54) <|
          cv_lt (sX6_ratioB s30 (((gX6_page s30) ((1 : Int32)).toNatClampNeg) - (48 : Int32))) fun s32 =>
          cv_gd (0 ≤ ((3 : Int32)).toInt ∧ ((3 : Int32)).toInt < 54) <|
          cv_lt (sX6_fee s32 (((gX6_page s32) ((3 : Int32)).toNatClampNeg) - (48 : Int32))) fun s34 =>
          cv_bd (fX6_empty s34 (0 : Int32)) fun r35 =>
          cv_lt (sX6_credit r35 (0 : Int32)) fun s36 =>
          cv_lt (sX6_lowest s36 (0 : Int32)) fun s37 =>
          cv_lt (sX6_logMany s37 (0 : Int32)) fun s38 =>
          cv_lt (sX6_seenMany s38 (0 : Int32)) fun s39 =>
          cv_bd (fX6_shelf_L109 256 (5 : Int32) s39) fun j40 =>
          cv_lt (sX6_shelvesRead j40 ((gX6_shelvesRead j40) + (1 : Int32))) fun s42 =>
          cv_lt (sX6_pageMany s42 (0 : Int32)) fun s43 =>
          cv_gd (0 ≤ ((0 : Int32)).toInt ∧ ((0 : Int32)).toInt < 2) <|
          some (((gX6_many s43) ((0 : Int32)).toNatClampNeg), s43)
          )
        else
          (
          some ((-103 : Int32), S)
          )
        )
      )
    )
abbrev rX6_shelf : Room := { frames := 5, cells := 0, slots := 0, locals := 125 }
theorem iX6_shelf_X6 : ∀ w ∈ u_ws RX6 TX6 50, w ∈ wsX6_shelf := fun w h => List.mem_cons_of_mem _ (List.mem_append_right _ h)
set_option maxHeartbeats 4000000 in
set_option maxRecDepth 100000 in
theorem vX6_shelf_L109 {p : Program} {l : Launch} {e : Env} {s : State} {m : MethodId} {args : Array Value} {below : List Frame} {meth : Method} {c : Code} {σ : Nat → Nat} {D : va_G} {A : Nat → Prop} {cy : ClassId} (q : Nat → Nat) (C : cv_C p s m args c cX6_shelf 2 RX6 wsX6_shelf σ D [(cy, .int)] A) {Q : State → Prop} {j : SX6} : ∀ (n : Nat) (y1 : Int32) (S : SX6), fX6_shelf_L109 n y1 S = some j → cv_V p l e rX6_shelf s m args below meth c 2 D A Q 0 0 (wX6 q cy j) 154 [(0, .ref (q 0))] [] → cv_V p l e rX6_shelf s m args below meth c 2 D A Q 0 0 (wX6 q cy S) 109 [(0, .ref (q 0)), (1, .int y1)] [] := by
  intro n
  induction n with
  | zero => intro y1 S hm kx; cases hm
  | succ n ih =>
    intro y1 S hm kx
    have hm : fX6_shelf_L109 (n + 1) y1 S = some j := hm
    unfold fX6_shelf_L109 at hm
    refine cv_iload_n (i := 1) (q := 110) 1 C dX6_shelf_109 rfl rfl rfl ?_
    refine cv_aload_n (i := 0) (q := 111) 0 C dX6_shelf_110 rfl rfl rfl ?_
    refine cv_get (q := 114) C iX6_shelf_X6 0 rfl rfl 1 (by decide) (List.mem_of_getElem? (i := 1) rfl) rfl rfl dX6_shelf_111 rfl ?_
    refine cv_icmp_ge (tgt := 154) (q := 117) C dX6_shelf_114 (by decide) rfl (fun h16 => ?_) (fun h16 => ?_)
    · have hm := cv_if_t h16 hm
      obtain rfl := Option.some.inj hm
      refine cv_sub [0] rfl ?_
      exact kx
    · have hm := cv_if_f h16 hm
      refine cv_aload_n (i := 0) (q := 118) 0 C dX6_shelf_117 rfl rfl rfl ?_
      refine cv_aload_n (i := 0) (q := 119) 0 C dX6_shelf_118 rfl rfl rfl ?_
      refine cv_get (q := 122) C iX6_shelf_X6 0 rfl rfl 0 (by decide) (List.mem_of_getElem? (i := 2) rfl) rfl rfl dX6_shelf_119 rfl ?_
      refine cv_iload_n (i := 1) (q := 123) 1 C dX6_shelf_122 rfl rfl rfl ?_
      obtain ⟨g17, hm⟩ := cv_gd_s hm
      refine cv_iald (q := 124) C 1 0 rfl rfl (vp_in_iff.mpr g17) dX6_shelf_123 rfl ?_
      obtain ⟨r18, hr18, hm⟩ := cv_bd_s hm
      refine cv_goE (q := 127) C (KX6_kindBy (l := l) (σ := σ) (D := D) (cy := cy)     ((gX6_page S) (y1).toNatClampNeg) hr18) (cv_rs (As := [.int ((gX6_page S) (y1).toNatClampNeg)]) (st := [.ref (q 0)]) (n := 1) C (KX6_kindBy (l := l) (σ := σ) (D := D) (cy := cy)     ((gX6_page S) (y1).toNatClampNeg) hr18) gX6_shelf_X6_kindBy rfl ⟨rfl, rfl⟩ (by decide +kernel) rfl ⟨Nat.le_of_ble_eq_true rfl, Nat.le_of_ble_eq_true rfl⟩ rfl (Nat.le_of_ble_eq_true rfl) dX6_shelf_124 ⟨Nat.zero_le _, Nat.zero_le _⟩) rfl ?_
      refine cv_aload_n (i := 0) (q := 128) 0 C dX6_shelf_127 rfl rfl rfl ?_
      refine cv_iload_n (i := 1) (q := 129) 1 C dX6_shelf_128 rfl rfl rfl ?_
      refine cv_iconst (v := 1) (q := 130) C dX6_shelf_129 (by decide) rfl ?_
      refine cv_iadd (q := 131) C dX6_shelf_130 rfl ?_
      obtain ⟨r19, hr19, hm⟩ := cv_bd_s hm
      refine cv_goW (q := 134) C (KX6_keyAt (l := l) (σ := σ) (D := D) (cy := cy)  q  S (y1 + (1 : Int32)) hr19) (cv_rv (As := [.int (y1 + (1 : Int32))]) (st := [.int r18, .ref (q 0)]) (n := 1) (q0 := 0) (ci := 6) C (KX6_keyAt (l := l) (σ := σ) (D := D) (cy := cy)  q  S (y1 + (1 : Int32)) hr19) rfl rfl gX6_shelf_X6_keyAt rfl ⟨rfl, rfl⟩ (by decide +kernel) rfl ⟨Nat.le_of_ble_eq_true rfl, Nat.le_of_ble_eq_true rfl⟩ rfl (Nat.le_of_ble_eq_true rfl) dX6_shelf_131 ⟨Nat.zero_le _, Nat.zero_le _⟩) rfl ?_
      refine cv_aload_n (i := 0) (q := 135) 0 C dX6_shelf_134 rfl rfl rfl ?_
      refine cv_get (q := 138) C iX6_shelf_X6 0 rfl rfl 0 (by decide) (List.mem_of_getElem? (i := 2) rfl) rfl rfl dX6_shelf_135 rfl ?_
      refine cv_iload_n (i := 1) (q := 139) 1 C dX6_shelf_138 rfl rfl rfl ?_
      refine cv_iconst (v := 4) (q := 140) C dX6_shelf_139 (by decide) rfl ?_
      refine cv_iadd (q := 141) C dX6_shelf_140 rfl ?_
      obtain ⟨g20, hm⟩ := cv_gd_s hm
      refine cv_iald (q := 142) C 1 0 rfl rfl (vp_in_iff.mpr g20) dX6_shelf_141 rfl ?_
      refine cv_bipush (v := 48) (q := 144) C dX6_shelf_142 (by decide) rfl ?_
      refine cv_isub (q := 145) C dX6_shelf_144 rfl ?_
      obtain ⟨r21, hr21, hm⟩ := cv_bd_s hm
      refine cv_goW (q := 148) C (KX6_putNew (l := l) (σ := σ) (D := D) (cy := cy)  q  S r18 r19 (((gX6_page S) ((y1 + (4 : Int32))).toNatClampNeg) - (48 : Int32)) hr21) (cv_rv (As := [.int r18, .int r19, .int (((gX6_page S) ((y1 + (4 : Int32))).toNatClampNeg) - (48 : Int32))]) (st := []) (n := 3) (q0 := 0) (ci := 6) C (KX6_putNew (l := l) (σ := σ) (D := D) (cy := cy)  q  S r18 r19 (((gX6_page S) ((y1 + (4 : Int32))).toNatClampNeg) - (48 : Int32)) hr21) rfl rfl gX6_shelf_X6_putNew rfl ⟨rfl, rfl⟩ (by decide +kernel) rfl ⟨Nat.le_of_ble_eq_true rfl, Nat.le_of_ble_eq_true rfl⟩ rfl (Nat.le_of_ble_eq_true rfl) dX6_shelf_145 ⟨Nat.zero_le _, Nat.zero_le _⟩) rfl ?_
      obtain ⟨x22, ex22, hm⟩ := cv_lt_s hm
      refine cv_iinc (v := x22) (lv' := [(1, .int x22), (0, .ref (q 0))]) (q := 151) 1 C dX6_shelf_148 rfl (by rw [ex22]; rfl) (by decide) rfl rfl ?_
      refine cv_goto (tgt := 109) C dX6_shelf_151 (by decide) ?_
      refine cv_sub [1, 0] rfl ?_
      exact ih x22 r21 hm kx
set_option maxHeartbeats 4000000 in
set_option maxRecDepth 100000 in
theorem KX6_shelf {l : Launch} {σ : Nat → Nat} {D : va_G} {cy : ClassId} (q : Nat → Nat) (S : SX6) {res : Int32 × SX6} (hm : fX6_shelf S = some res) : cv_M l yX6_shelf wsX6_shelf rX6_shelf σ D [(cy, .int)] [.ref (q 0)] (wX6 q cy S) (some (.int res.1)) (wX6 q cy res.2) := by
  unfold fX6_shelf at hm
  refine cv_M.of (own := RX6) (by decide +kernel) rfl rfl (lv := [(0, .ref (q 0))]) rfl (Nat.le_of_ble_eq_true rfl) ?_
  intro p e s m args below meth c A C hr hk
  refine cv_aload_n (i := 0) (q := 1) 0 C dX6_shelf_0 rfl rfl rfl ?_
  refine cv_get (q := 4) C iX6_shelf_X6 0 rfl rfl 1 (by decide) (List.mem_of_getElem? (i := 1) rfl) rfl rfl dX6_shelf_1 rfl ?_
  refine cv_iconst (v := 5) (q := 5) C dX6_shelf_4 (by decide) rfl ?_
  refine cv_icmp_lt (tgt := 40) (q := 8) C dX6_shelf_5 (by decide) rfl (fun h1 => ?_) (fun h1 => ?_)
  · have hm := cv_if_t h1 hm
    refine cv_bipush (v := -103) (q := 42) C dX6_shelf_40 (by decide) rfl ?_
    obtain rfl := Option.some.inj hm
    exact cv_iret C hr hk dX6_shelf_42
  · have hm := cv_if_f h1 hm
    refine cv_aload_n (i := 0) (q := 9) 0 C dX6_shelf_8 rfl rfl rfl ?_
    obtain ⟨r2, hr2, hm⟩ := cv_bd_s hm
    refine cv_goW (q := 12) C (KX6_faultOf (l := l) (σ := σ) (D := D) (cy := cy)  q  S  hr2) (cv_rv (As := []) (st := []) (n := 0) (q0 := 0) (ci := 6) C (KX6_faultOf (l := l) (σ := σ) (D := D) (cy := cy)  q  S  hr2) rfl rfl gX6_shelf_X6_faultOf rfl ⟨rfl, rfl⟩ (by decide +kernel) rfl ⟨Nat.le_of_ble_eq_true rfl, Nat.le_of_ble_eq_true rfl⟩ rfl (Nat.le_of_ble_eq_true rfl) dX6_shelf_9 ⟨Nat.zero_le _, Nat.zero_le _⟩) rfl ?_
    refine cv_aload_n (i := 0) (q := 13) 0 C dX6_shelf_12 rfl rfl rfl ?_
    refine cv_get (q := 16) C iX6_shelf_X6 0 rfl rfl 1 (by decide) (List.mem_of_getElem? (i := 1) rfl) rfl rfl dX6_shelf_13 rfl ?_
    refine cv_icmp_lt (tgt := 40) (q := 19) C dX6_shelf_16 (by decide) rfl (fun h3 => ?_) (fun h3 => ?_)
    · have hm := cv_if_t h3 hm
      refine cv_bipush (v := -103) (q := 42) C dX6_shelf_40 (by decide) rfl ?_
      obtain rfl := Option.some.inj hm
      exact cv_iret C hr hk dX6_shelf_42
    · have hm := cv_if_f h3 hm
      refine cv_aload_n (i := 0) (q := 20) 0 C dX6_shelf_19 rfl rfl rfl ?_
      refine cv_get (q := 23) C iX6_shelf_X6 0 rfl rfl 1 (by decide) (List.mem_of_getElem? (i := 1) rfl) rfl rfl dX6_shelf_20 rfl ?_
      refine cv_iconst (v := 5) (q := 24) C dX6_shelf_23 (by decide) rfl ?_
      refine cv_icmp_le (tgt := 43) (q := 27) C dX6_shelf_24 (by decide) rfl (fun h4 => ?_) (fun h4 => ?_)
      · have hm := cv_if_t h4 hm
        refine cv_aload_n (i := 0) (q := 44) 0 C dX6_shelf_43 rfl rfl rfl ?_
        refine cv_aload_n (i := 0) (q := 45) 0 C dX6_shelf_44 rfl rfl rfl ?_
        refine cv_get (q := 48) C iX6_shelf_X6 0 rfl rfl 0 (by decide) (List.mem_of_getElem? (i := 2) rfl) rfl rfl dX6_shelf_45 rfl ?_
        refine cv_iconst (v := 0) (q := 49) C dX6_shelf_48 (by decide) rfl ?_
        obtain ⟨g5, hm⟩ := cv_gd_s hm
        refine cv_iald (q := 50) C 1 0 rfl rfl (vp_in_iff.mpr g5) dX6_shelf_49 rfl ?_
        refine cv_bipush (v := 48) (q := 52) C dX6_shelf_50 (by decide) rfl ?_
        refine cv_isub (q := 53) C dX6_shelf_52 rfl ?_
        obtain ⟨s6, es6, hm⟩ := cv_lt_s hm
        refine cv_put (q := 56) (ws' := (wX6 q cy s6)) C iX6_shelf_X6 tyX6 tyX6_ok nmX6 0 rfl rfl 14 (by decide) (List.mem_of_getElem? (i := 3) rfl) rfl rfl rfl rfl rfl (Nat.le_of_ble_eq_true rfl) dX6_shelf_53 rfl (by rw [es6]; rfl) ?_
        refine cv_aload_n (i := 0) (q := 57) 0 C dX6_shelf_56 rfl rfl rfl ?_
        refine cv_aload_n (i := 0) (q := 58) 0 C dX6_shelf_57 rfl rfl rfl ?_
        refine cv_get (q := 61) C iX6_shelf_X6 0 rfl rfl 0 (by decide) (List.mem_of_getElem? (i := 2) rfl) rfl rfl dX6_shelf_58 rfl ?_
        refine cv_iconst (v := 1) (q := 62) C dX6_shelf_61 (by decide) rfl ?_
        obtain ⟨g7, hm⟩ := cv_gd_s hm
        refine cv_iald (q := 63) C 1 0 rfl rfl (vp_in_iff.mpr g7) dX6_shelf_62 rfl ?_
        refine cv_bipush (v := 48) (q := 65) C dX6_shelf_63 (by decide) rfl ?_
        refine cv_isub (q := 66) C dX6_shelf_65 rfl ?_
        obtain ⟨s8, es8, hm⟩ := cv_lt_s hm
        refine cv_put (q := 69) (ws' := (wX6 q cy s8)) C iX6_shelf_X6 tyX6 tyX6_ok nmX6 0 rfl rfl 15 (by decide) (List.mem_of_getElem? (i := 4) rfl) rfl rfl rfl rfl rfl (Nat.le_of_ble_eq_true rfl) dX6_shelf_66 rfl (by rw [es8]; rfl) ?_
        refine cv_aload_n (i := 0) (q := 70) 0 C dX6_shelf_69 rfl rfl rfl ?_
        refine cv_aload_n (i := 0) (q := 71) 0 C dX6_shelf_70 rfl rfl rfl ?_
        refine cv_get (q := 74) C iX6_shelf_X6 0 rfl rfl 0 (by decide) (List.mem_of_getElem? (i := 2) rfl) rfl rfl dX6_shelf_71 rfl ?_
        refine cv_iconst (v := 3) (q := 75) C dX6_shelf_74 (by decide) rfl ?_
        obtain ⟨g9, hm⟩ := cv_gd_s hm
        refine cv_iald (q := 76) C 1 0 rfl rfl (vp_in_iff.mpr g9) dX6_shelf_75 rfl ?_
        refine cv_bipush (v := 48) (q := 78) C dX6_shelf_76 (by decide) rfl ?_
        refine cv_isub (q := 79) C dX6_shelf_78 rfl ?_
        obtain ⟨s10, es10, hm⟩ := cv_lt_s hm
        refine cv_put (q := 82) (ws' := (wX6 q cy s10)) C iX6_shelf_X6 tyX6 tyX6_ok nmX6 0 rfl rfl 18 (by decide) (List.mem_of_getElem? (i := 5) rfl) rfl rfl rfl rfl rfl (Nat.le_of_ble_eq_true rfl) dX6_shelf_79 rfl (by rw [es10]; rfl) ?_
        refine cv_aload_n (i := 0) (q := 83) 0 C dX6_shelf_82 rfl rfl rfl ?_
        refine cv_iconst (v := 0) (q := 84) C dX6_shelf_83 (by decide) rfl ?_
        obtain ⟨r11, hr11, hm⟩ := cv_bd_s hm
        refine cv_goW (q := 87) C (KX6_empty (l := l) (σ := σ) (D := D) (cy := cy)  q  s10 (0 : Int32) hr11) (cv_rv (As := [.int (0 : Int32)]) (st := []) (n := 1) (q0 := 0) (ci := 6) C (KX6_empty (l := l) (σ := σ) (D := D) (cy := cy)  q  s10 (0 : Int32) hr11) rfl rfl gX6_shelf_X6_empty rfl ⟨rfl, rfl⟩ (by decide +kernel) rfl ⟨Nat.le_of_ble_eq_true rfl, Nat.le_of_ble_eq_true rfl⟩ rfl (Nat.le_of_ble_eq_true rfl) dX6_shelf_84 ⟨Nat.zero_le _, Nat.zero_le _⟩) rfl ?_
        refine cv_aload_n (i := 0) (q := 88) 0 C dX6_shelf_87 rfl rfl rfl ?_
        refine cv_iconst (v := 0) (q := 89) C dX6_shelf_88 (by decide) rfl ?_
        obtain ⟨s12, es12, hm⟩ := cv_lt_s hm
        refine cv_put (q := 92) (ws' := (wX6 q cy s12)) C iX6_shelf_X6 tyX6 tyX6_ok nmX6 0 rfl rfl 19 (by decide) (List.mem_of_getElem? (i := 6) rfl) rfl rfl rfl rfl rfl (Nat.le_of_ble_eq_true rfl) dX6_shelf_89 rfl (by rw [es12]; rfl) ?_
        refine cv_aload_n (i := 0) (q := 93) 0 C dX6_shelf_92 rfl rfl rfl ?_
        refine cv_iconst (v := 0) (q := 94) C dX6_shelf_93 (by decide) rfl ?_
        obtain ⟨s13, es13, hm⟩ := cv_lt_s hm
        refine cv_put (q := 97) (ws' := (wX6 q cy s13)) C iX6_shelf_X6 tyX6 tyX6_ok nmX6 0 rfl rfl 20 (by decide) (List.mem_of_getElem? (i := 7) rfl) rfl rfl rfl rfl rfl (Nat.le_of_ble_eq_true rfl) dX6_shelf_94 rfl (by rw [es13]; rfl) ?_
        refine cv_aload_n (i := 0) (q := 98) 0 C dX6_shelf_97 rfl rfl rfl ?_
        refine cv_iconst (v := 0) (q := 99) C dX6_shelf_98 (by decide) rfl ?_
        obtain ⟨s14, es14, hm⟩ := cv_lt_s hm
        refine cv_put (q := 102) (ws' := (wX6 q cy s14)) C iX6_shelf_X6 tyX6 tyX6_ok nmX6 0 rfl rfl 22 (by decide) (List.mem_of_getElem? (i := 8) rfl) rfl rfl rfl rfl rfl (Nat.le_of_ble_eq_true rfl) dX6_shelf_99 rfl (by rw [es14]; rfl) ?_
        refine cv_aload_n (i := 0) (q := 103) 0 C dX6_shelf_102 rfl rfl rfl ?_
        refine cv_iconst (v := 0) (q := 104) C dX6_shelf_103 (by decide) rfl ?_
        obtain ⟨s15, es15, hm⟩ := cv_lt_s hm
        refine cv_put (q := 107) (ws' := (wX6 q cy s15)) C iX6_shelf_X6 tyX6 tyX6_ok nmX6 0 rfl rfl 28 (by decide) (List.mem_of_getElem? (i := 9) rfl) rfl rfl rfl rfl rfl (Nat.le_of_ble_eq_true rfl) dX6_shelf_104 rfl (by rw [es15]; rfl) ?_
        refine cv_iconst (v := 5) (q := 108) C dX6_shelf_107 (by decide) rfl ?_
        refine cv_istore_n (i := 1) (lv' := [(1, .int (5 : Int32)), (0, .ref (q 0))]) (q := 109) C dX6_shelf_108 rfl (by decide) rfl rfl ?_
        obtain ⟨j23, hj23, hm⟩ := cv_bd_s hm
        refine cv_cut (ws' := (wX6 q cy j23)) (pc' := 154) (lv' := [(0, .ref (q 0))]) (st' := []) ?_ (fun K24 => ?_)
        · refine cv_aload_n (i := 0) (q := 155) 0 C dX6_shelf_154 rfl rfl rfl ?_
          refine cv_dup (q := 156) C dX6_shelf_155 rfl rfl ?_
          refine cv_get (q := 159) C iX6_shelf_X6 0 rfl rfl 23 (by decide) (List.mem_of_getElem? (i := 10) rfl) rfl rfl dX6_shelf_156 rfl ?_
          refine cv_iconst (v := 1) (q := 160) C dX6_shelf_159 (by decide) rfl ?_
          refine cv_iadd (q := 161) C dX6_shelf_160 rfl ?_
          obtain ⟨s25, es25, hm⟩ := cv_lt_s hm
          refine cv_put (q := 164) (ws' := (wX6 q cy s25)) C iX6_shelf_X6 tyX6 tyX6_ok nmX6 0 rfl rfl 23 (by decide) (List.mem_of_getElem? (i := 10) rfl) rfl rfl rfl rfl rfl (Nat.le_of_ble_eq_true rfl) dX6_shelf_161 rfl (by rw [es25]; rfl) ?_
          refine cv_aload_n (i := 0) (q := 165) 0 C dX6_shelf_164 rfl rfl rfl ?_
          refine cv_iconst (v := 0) (q := 166) C dX6_shelf_165 (by decide) rfl ?_
          obtain ⟨s26, es26, hm⟩ := cv_lt_s hm
          refine cv_put (q := 169) (ws' := (wX6 q cy s26)) C iX6_shelf_X6 tyX6 tyX6_ok nmX6 0 rfl rfl 1 (by decide) (List.mem_of_getElem? (i := 1) rfl) rfl rfl rfl rfl rfl (Nat.le_of_ble_eq_true rfl) dX6_shelf_166 rfl (by rw [es26]; rfl) ?_
          refine cv_aload_n (i := 0) (q := 170) 0 C dX6_shelf_169 rfl rfl rfl ?_
          refine cv_get (q := 173) C iX6_shelf_X6 0 rfl rfl 7 (by decide) (List.mem_of_getElem? (i := 11) rfl) rfl rfl dX6_shelf_170 rfl ?_
          refine cv_iconst (v := 0) (q := 174) C dX6_shelf_173 (by decide) rfl ?_
          obtain ⟨g27, hm⟩ := cv_gd_s hm
          refine cv_iald (q := 175) C 7 0 rfl rfl (vp_in_iff.mpr g27) dX6_shelf_174 rfl ?_
          obtain rfl := Option.some.inj hm
          exact cv_iret C hr hk dX6_shelf_175
        · refine cv_sub [1, 0] rfl ?_
          exact vX6_shelf_L109 q  C 256 (5 : Int32) s15 hj23 K24
      · have hm := cv_if_f h4 hm
        refine cv_aload_n (i := 0) (q := 28) 0 C dX6_shelf_27 rfl rfl rfl ?_
        refine cv_get (q := 31) C iX6_shelf_X6 0 rfl rfl 1 (by decide) (List.mem_of_getElem? (i := 1) rfl) rfl rfl dX6_shelf_28 rfl ?_
        refine cv_iconst (v := 5) (q := 32) C dX6_shelf_31 (by decide) rfl ?_
        refine cv_isub (q := 33) C dX6_shelf_32 rfl ?_
        refine cv_bipush (v := 6) (q := 35) C dX6_shelf_33 (by decide) rfl ?_
        refine cv_irem (q := 36) C dX6_shelf_35 (by decide) rfl ?_
        refine cv_iconst (v := 5) (q := 37) C dX6_shelf_36 (by decide) rfl ?_
        refine cv_icmp_eq (tgt := 43) (q := 40) C dX6_shelf_37 (by decide) rfl (fun h28 => ?_) (fun h28 => ?_)
        · have hm := cv_if_t h28 hm
          refine cv_aload_n (i := 0) (q := 44) 0 C dX6_shelf_43 rfl rfl rfl ?_
          refine cv_aload_n (i := 0) (q := 45) 0 C dX6_shelf_44 rfl rfl rfl ?_
          refine cv_get (q := 48) C iX6_shelf_X6 0 rfl rfl 0 (by decide) (List.mem_of_getElem? (i := 2) rfl) rfl rfl dX6_shelf_45 rfl ?_
          refine cv_iconst (v := 0) (q := 49) C dX6_shelf_48 (by decide) rfl ?_
          obtain ⟨g29, hm⟩ := cv_gd_s hm
          refine cv_iald (q := 50) C 1 0 rfl rfl (vp_in_iff.mpr g29) dX6_shelf_49 rfl ?_
          refine cv_bipush (v := 48) (q := 52) C dX6_shelf_50 (by decide) rfl ?_
          refine cv_isub (q := 53) C dX6_shelf_52 rfl ?_
          obtain ⟨s30, es30, hm⟩ := cv_lt_s hm
          refine cv_put (q := 56) (ws' := (wX6 q cy s30)) C iX6_shelf_X6 tyX6 tyX6_ok nmX6 0 rfl rfl 14 (by decide) (List.mem_of_getElem? (i := 3) rfl) rfl rfl rfl rfl rfl (Nat.le_of_ble_eq_true rfl) dX6_shelf_53 rfl (by rw [es30]; rfl) ?_
          refine cv_aload_n (i := 0) (q := 57) 0 C dX6_shelf_56 rfl rfl rfl ?_
          refine cv_aload_n (i := 0) (q := 58) 0 C dX6_shelf_57 rfl rfl rfl ?_
          refine cv_get (q := 61) C iX6_shelf_X6 0 rfl rfl 0 (by decide) (List.mem_of_getElem? (i := 2) rfl) rfl rfl dX6_shelf_58 rfl ?_
          refine cv_iconst (v := 1) (q := 62) C dX6_shelf_61 (by decide) rfl ?_
          obtain ⟨g31, hm⟩ := cv_gd_s hm
          refine cv_iald (q := 63) C 1 0 rfl rfl (vp_in_iff.mpr g31) dX6_shelf_62 rfl ?_
          refine cv_bipush (v := 48) (q := 65) C dX6_shelf_63 (by decide) rfl ?_
          refine cv_isub (q := 66) C dX6_shelf_65 rfl ?_
          obtain ⟨s32, es32, hm⟩ := cv_lt_s hm
          refine cv_put (q := 69) (ws' := (wX6 q cy s32)) C iX6_shelf_X6 tyX6 tyX6_ok nmX6 0 rfl rfl 15 (by decide) (List.mem_of_getElem? (i := 4) rfl) rfl rfl rfl rfl rfl (Nat.le_of_ble_eq_true rfl) dX6_shelf_66 rfl (by rw [es32]; rfl) ?_
          refine cv_aload_n (i := 0) (q := 70) 0 C dX6_shelf_69 rfl rfl rfl ?_
          refine cv_aload_n (i := 0) (q := 71) 0 C dX6_shelf_70 rfl rfl rfl ?_
          refine cv_get (q := 74) C iX6_shelf_X6 0 rfl rfl 0 (by decide) (List.mem_of_getElem? (i := 2) rfl) rfl rfl dX6_shelf_71 rfl ?_
          refine cv_iconst (v := 3) (q := 75) C dX6_shelf_74 (by decide) rfl ?_
          obtain ⟨g33, hm⟩ := cv_gd_s hm
          refine cv_iald (q := 76) C 1 0 rfl rfl (vp_in_iff.mpr g33) dX6_shelf_75 rfl ?_
          refine cv_bipush (v := 48) (q := 78) C dX6_shelf_76 (by decide) rfl ?_
          refine cv_isub (q := 79) C dX6_shelf_78 rfl ?_
          obtain ⟨s34, es34, hm⟩ := cv_lt_s hm
          refine cv_put (q := 82) (ws' := (wX6 q cy s34)) C iX6_shelf_X6 tyX6 tyX6_ok nmX6 0 rfl rfl 18 (by decide) (List.mem_of_getElem? (i := 5) rfl) rfl rfl rfl rfl rfl (Nat.le_of_ble_eq_true rfl) dX6_shelf_79 rfl (by rw [es34]; rfl) ?_
          refine cv_aload_n (i := 0) (q := 83) 0 C dX6_shelf_82 rfl rfl rfl ?_
          refine cv_iconst (v := 0) (q := 84) C dX6_shelf_83 (by decide) rfl ?_
          obtain ⟨r35, hr35, hm⟩ := cv_bd_s hm
          refine cv_goW (q := 87) C (KX6_empty (l := l) (σ := σ) (D := D) (cy := cy)  q  s34 (0 : Int32) hr35) (cv_rv (As := [.int (0 : Int32)]) (st := []) (n := 1) (q0 := 0) (ci := 6) C (KX6_empty (l := l) (σ := σ) (D := D) (cy := cy)  q  s34 (0 : Int32) hr35) rfl rfl gX6_shelf_X6_empty rfl ⟨rfl, rfl⟩ (by decide +kernel) rfl ⟨Nat.le_of_ble_eq_true rfl, Nat.le_of_ble_eq_true rfl⟩ rfl (Nat.le_of_ble_eq_true rfl) dX6_shelf_84 ⟨Nat.zero_le _, Nat.zero_le _⟩) rfl ?_
          refine cv_aload_n (i := 0) (q := 88) 0 C dX6_shelf_87 rfl rfl rfl ?_
          refine cv_iconst (v := 0) (q := 89) C dX6_shelf_88 (by decide) rfl ?_
          obtain ⟨s36, es36, hm⟩ := cv_lt_s hm
          refine cv_put (q := 92) (ws' := (wX6 q cy s36)) C iX6_shelf_X6 tyX6 tyX6_ok nmX6 0 rfl rfl 19 (by decide) (List.mem_of_getElem? (i := 6) rfl) rfl rfl rfl rfl rfl (Nat.le_of_ble_eq_true rfl) dX6_shelf_89 rfl (by rw [es36]; rfl) ?_
          refine cv_aload_n (i := 0) (q := 93) 0 C dX6_shelf_92 rfl rfl rfl ?_
          refine cv_iconst (v := 0) (q := 94) C dX6_shelf_93 (by decide) rfl ?_
          obtain ⟨s37, es37, hm⟩ := cv_lt_s hm
          refine cv_put (q := 97) (ws' := (wX6 q cy s37)) C iX6_shelf_X6 tyX6 tyX6_ok nmX6 0 rfl rfl 20 (by decide) (List.mem_of_getElem? (i := 7) rfl) rfl rfl rfl rfl rfl (Nat.le_of_ble_eq_true rfl) dX6_shelf_94 rfl (by rw [es37]; rfl) ?_
          refine cv_aload_n (i := 0) (q := 98) 0 C dX6_shelf_97 rfl rfl rfl ?_
          refine cv_iconst (v := 0) (q := 99) C dX6_shelf_98 (by decide) rfl ?_
          obtain ⟨s38, es38, hm⟩ := cv_lt_s hm
          refine cv_put (q := 102) (ws' := (wX6 q cy s38)) C iX6_shelf_X6 tyX6 tyX6_ok nmX6 0 rfl rfl 22 (by decide) (List.mem_of_getElem? (i := 8) rfl) rfl rfl rfl rfl rfl (Nat.le_of_ble_eq_true rfl) dX6_shelf_99 rfl (by rw [es38]; rfl) ?_
          refine cv_aload_n (i := 0) (q := 103) 0 C dX6_shelf_102 rfl rfl rfl ?_
          refine cv_iconst (v := 0) (q := 104) C dX6_shelf_103 (by decide) rfl ?_
          obtain ⟨s39, es39, hm⟩ := cv_lt_s hm
          refine cv_put (q := 107) (ws' := (wX6 q cy s39)) C iX6_shelf_X6 tyX6 tyX6_ok nmX6 0 rfl rfl 28 (by decide) (List.mem_of_getElem? (i := 9) rfl) rfl rfl rfl rfl rfl (Nat.le_of_ble_eq_true rfl) dX6_shelf_104 rfl (by rw [es39]; rfl) ?_
          refine cv_iconst (v := 5) (q := 108) C dX6_shelf_107 (by decide) rfl ?_
          refine cv_istore_n (i := 1) (lv' := [(1, .int (5 : Int32)), (0, .ref (q 0))]) (q := 109) C dX6_shelf_108 rfl (by decide) rfl rfl ?_
          obtain ⟨j40, hj40, hm⟩ := cv_bd_s hm
          refine cv_cut (ws' := (wX6 q cy j40)) (pc' := 154) (lv' := [(0, .ref (q 0))]) (st' := []) ?_ (fun K41 => ?_)
          · refine cv_aload_n (i := 0) (q := 155) 0 C dX6_shelf_154 rfl rfl rfl ?_
            refine cv_dup (q := 156) C dX6_shelf_155 rfl rfl ?_
            refine cv_get (q := 159) C iX6_shelf_X6 0 rfl rfl 23 (by decide) (List.mem_of_getElem? (i := 10) rfl) rfl rfl dX6_shelf_156 rfl ?_
            refine cv_iconst (v := 1) (q := 160) C dX6_shelf_159 (by decide) rfl ?_
            refine cv_iadd (q := 161) C dX6_shelf_160 rfl ?_
            obtain ⟨s42, es42, hm⟩ := cv_lt_s hm
            refine cv_put (q := 164) (ws' := (wX6 q cy s42)) C iX6_shelf_X6 tyX6 tyX6_ok nmX6 0 rfl rfl 23 (by decide) (List.mem_of_getElem? (i := 10) rfl) rfl rfl rfl rfl rfl (Nat.le_of_ble_eq_true rfl) dX6_shelf_161 rfl (by rw [es42]; rfl) ?_
            refine cv_aload_n (i := 0) (q := 165) 0 C dX6_shelf_164 rfl rfl rfl ?_
            refine cv_iconst (v := 0) (q := 166) C dX6_shelf_165 (by decide) rfl ?_
            obtain ⟨s43, es43, hm⟩ := cv_lt_s hm
            refine cv_put (q := 169) (ws' := (wX6 q cy s43)) C iX6_shelf_X6 tyX6 tyX6_ok nmX6 0 rfl rfl 1 (by decide) (List.mem_of_getElem? (i := 1) rfl) rfl rfl rfl rfl rfl (Nat.le_of_ble_eq_true rfl) dX6_shelf_166 rfl (by rw [es43]; rfl) ?_
            refine cv_aload_n (i := 0) (q := 170) 0 C dX6_shelf_169 rfl rfl rfl ?_
            refine cv_get (q := 173) C iX6_shelf_X6 0 rfl rfl 7 (by decide) (List.mem_of_getElem? (i := 11) rfl) rfl rfl dX6_shelf_170 rfl ?_
            refine cv_iconst (v := 0) (q := 174) C dX6_shelf_173 (by decide) rfl ?_
            obtain ⟨g44, hm⟩ := cv_gd_s hm
            refine cv_iald (q := 175) C 7 0 rfl rfl (vp_in_iff.mpr g44) dX6_shelf_174 rfl ?_
            obtain rfl := Option.some.inj hm
            exact cv_iret C hr hk dX6_shelf_175
          · refine cv_sub [1, 0] rfl ?_
            exact vX6_shelf_L109 q  C 256 (5 : Int32) s39 hj40 K41
        · have hm := cv_if_f h28 hm
          refine cv_bipush (v := -103) (q := 42) C dX6_shelf_40 (by decide) rfl ?_
          obtain rfl := Option.some.inj hm
          exact cv_iret C hr hk dX6_shelf_42
def fX6_takeOut (S : SX6) (a1 : Int32) : Option (SX6) :=
  cv_bd (fX6_leave S (0 : Int32) a1) fun r1 =>
  cv_bd (fX6_write r1 ((-1 : Int32) - a1)) fun r2 =>
  some r2
abbrev rX6_takeOut : Room := { frames := 5, cells := 0, slots := 0, locals := 115 }
set_option maxHeartbeats 4000000 in
set_option maxRecDepth 100000 in
theorem KX6_takeOut {l : Launch} {σ : Nat → Nat} {D : va_G} {cy : ClassId} (q : Nat → Nat) (S : SX6) (a1 : Int32) {res : SX6} (hm : fX6_takeOut S a1 = some res) : cv_M l yX6_takeOut wsX6_takeOut rX6_takeOut σ D [(cy, .int)] [.ref (q 0), .int a1] (wX6 q cy S) none (wX6 q cy res) := by
  unfold fX6_takeOut at hm
  refine cv_M.of (own := RX6) (by decide +kernel) rfl rfl (lv := [(0, .ref (q 0)), (1, .int a1)]) rfl (Nat.le_of_ble_eq_true rfl) ?_
  intro p e s m args below meth c A C hr hk
  refine cv_aload_n (i := 0) (q := 1) 0 C dX6_takeOut_0 rfl rfl rfl ?_
  refine cv_iconst (v := 0) (q := 2) C dX6_takeOut_1 (by decide) rfl ?_
  refine cv_iload_n (i := 1) (q := 3) 1 C dX6_takeOut_2 rfl rfl rfl ?_
  obtain ⟨r1, hr1, hm⟩ := cv_bd_s hm
  refine cv_goW (q := 6) C (KX6_leave (l := l) (σ := σ) (D := D) (cy := cy)  q  S (0 : Int32) a1 hr1) (cv_rv (As := [.int (0 : Int32), .int a1]) (st := []) (n := 2) (q0 := 0) (ci := 6) C (KX6_leave (l := l) (σ := σ) (D := D) (cy := cy)  q  S (0 : Int32) a1 hr1) rfl rfl gX6_takeOut_X6_leave rfl ⟨rfl, rfl⟩ (by decide +kernel) rfl ⟨Nat.le_of_ble_eq_true rfl, Nat.le_of_ble_eq_true rfl⟩ rfl (Nat.le_of_ble_eq_true rfl) dX6_takeOut_3 ⟨Nat.zero_le _, Nat.zero_le _⟩) rfl ?_
  refine cv_aload_n (i := 0) (q := 7) 0 C dX6_takeOut_6 rfl rfl rfl ?_
  refine cv_iconst (v := -1) (q := 8) C dX6_takeOut_7 (by decide) rfl ?_
  refine cv_iload_n (i := 1) (q := 9) 1 C dX6_takeOut_8 rfl rfl rfl ?_
  refine cv_isub (q := 10) C dX6_takeOut_9 rfl ?_
  obtain ⟨r2, hr2, hm⟩ := cv_bd_s hm
  refine cv_goW (q := 13) C (KX6_write (l := l) (σ := σ) (D := D) (cy := cy)  q  r1 ((-1 : Int32) - a1) hr2) (cv_rv (As := [.int ((-1 : Int32) - a1)]) (st := []) (n := 1) (q0 := 0) (ci := 6) C (KX6_write (l := l) (σ := σ) (D := D) (cy := cy)  q  r1 ((-1 : Int32) - a1) hr2) rfl rfl gX6_takeOut_X6_write rfl ⟨rfl, rfl⟩ (by decide +kernel) rfl ⟨Nat.le_of_ble_eq_true rfl, Nat.le_of_ble_eq_true rfl⟩ rfl (Nat.le_of_ble_eq_true rfl) dX6_takeOut_10 ⟨Nat.zero_le _, Nat.zero_le _⟩) rfl ?_
  obtain rfl := Option.some.inj hm
  exact cv_vret C hr hk dX6_takeOut_13
def fX6_isThere (S : SX6) (a1 : Int32) : Option (Int32) :=
  cv_bd (fX6_lacks S) fun r1 =>
  if r1 = 0 then
    (
    cv_bd (fX6_in ((a1).toInt64) (0 : Int64) (99 : Int64)) fun r3 =>
    if r3 = 0 then
      (
      some (0 : Int32)
      )
    else
      (
      cv_gd (0 ≤ (a1).toInt ∧ (a1).toInt < 200) <|
      if ((gX6_there S) (a1).toNatClampNeg) = (1 : Int32) then
        (
        some (1 : Int32)
        )
      else
        (
        some (0 : Int32)
        )
      )
    )
  else
    (
    some (0 : Int32)
    )
abbrev rX6_isThere : Room := { frames := 1, cells := 0, slots := 0, locals := 25 }
theorem iX6_isThere_X6 : ∀ w ∈ u_ws RX6 TX6 50, w ∈ wsX6_isThere := fun w h => List.mem_cons_of_mem _ (List.mem_append_right _ h)
set_option maxHeartbeats 4000000 in
set_option maxRecDepth 100000 in
theorem KX6_isThere {l : Launch} {σ : Nat → Nat} {D : va_G} {cy : ClassId} (q : Nat → Nat) (S : SX6) (a1 : Int32) {res : Int32} (hm : fX6_isThere S a1 = some res) : cv_M l yX6_isThere wsX6_isThere rX6_isThere σ D [(cy, .int)] [.ref (q 0), .int a1] (wX6 q cy S) (some (.int res)) (wX6 q cy S) := by
  unfold fX6_isThere at hm
  refine cv_M.of (own := RX6) (by decide +kernel) rfl rfl (lv := [(0, .ref (q 0)), (1, .int a1)]) rfl (Nat.le_of_ble_eq_true rfl) ?_
  intro p e s m args below meth c A C hr hk
  refine cv_aload_n (i := 0) (q := 1) 0 C dX6_isThere_0 rfl rfl rfl ?_
  obtain ⟨r1, hr1, hm⟩ := cv_bd_s hm
  refine cv_goW (q := 4) C (KX6_lacks (l := l) (σ := σ) (D := D) (cy := cy)  q  S  hr1) (cv_rv (As := []) (st := []) (n := 0) (q0 := 0) (ci := 6) C (KX6_lacks (l := l) (σ := σ) (D := D) (cy := cy)  q  S  hr1) rfl rfl gX6_isThere_X6_lacks rfl ⟨rfl, rfl⟩ (by decide +kernel) rfl ⟨Nat.le_of_ble_eq_true rfl, Nat.le_of_ble_eq_true rfl⟩ rfl (Nat.le_of_ble_eq_true rfl) dX6_isThere_1 ⟨Nat.zero_le _, Nat.zero_le _⟩) rfl ?_
  refine cv_if_ne (tgt := 33) (q := 7) C dX6_isThere_4 (by decide) rfl (fun h2 => ?_) (fun h2 => ?_)
  · have hm := cv_if_f h2 hm
    refine cv_iconst (v := 0) (q := 34) C dX6_isThere_33 (by decide) rfl ?_
    obtain rfl := Option.some.inj hm
    exact cv_zret C hr hk (cv_bool (Or.inl rfl)) dX6_isThere_34
  · have hm := cv_if_t h2 hm
    refine cv_iload_n (i := 1) (q := 8) 1 C dX6_isThere_7 rfl rfl rfl ?_
    refine cv_i2l (q := 9) C dX6_isThere_8 rfl ?_
    refine cv_lconst (v := 0) (q := 10) C dX6_isThere_9 (by decide) rfl ?_
    refine cv_ldc2 (v := 99) (q := 13) C dX6_isThere_10 (List.mem_of_getElem? (i := 1) rfl) rfl ?_
    obtain ⟨r3, hr3, hm⟩ := cv_bd_s hm
    refine cv_goE (q := 16) C (KX6_in (l := l) (σ := σ) (D := D) (cy := cy)     ((a1).toInt64) (0 : Int64) (99 : Int64) hr3) (cv_rs (As := [.long (a1).toInt64, .long (0 : Int64), .long (99 : Int64)]) (st := []) (n := 3) C (KX6_in (l := l) (σ := σ) (D := D) (cy := cy)     ((a1).toInt64) (0 : Int64) (99 : Int64) hr3) gX6_isThere_X6_in rfl ⟨rfl, rfl⟩ (by decide +kernel) rfl ⟨Nat.le_of_ble_eq_true rfl, Nat.le_of_ble_eq_true rfl⟩ rfl (Nat.le_of_ble_eq_true rfl) dX6_isThere_13 ⟨Nat.zero_le _, Nat.zero_le _⟩) rfl ?_
    refine cv_if_eq (tgt := 33) (q := 19) C dX6_isThere_16 (by decide) rfl (fun h4 => ?_) (fun h4 => ?_)
    · have hm := cv_if_t h4 hm
      refine cv_iconst (v := 0) (q := 34) C dX6_isThere_33 (by decide) rfl ?_
      obtain rfl := Option.some.inj hm
      exact cv_zret C hr hk (cv_bool (Or.inl rfl)) dX6_isThere_34
    · have hm := cv_if_f h4 hm
      refine cv_aload_n (i := 0) (q := 20) 0 C dX6_isThere_19 rfl rfl rfl ?_
      refine cv_get (q := 23) C iX6_isThere_X6 0 rfl rfl 5 (by decide) (List.mem_of_getElem? (i := 2) rfl) rfl rfl dX6_isThere_20 rfl ?_
      refine cv_iload_n (i := 1) (q := 24) 1 C dX6_isThere_23 rfl rfl rfl ?_
      obtain ⟨g5, hm⟩ := cv_gd_s hm
      refine cv_iald (q := 25) C 5 0 rfl rfl (vp_in_iff.mpr g5) dX6_isThere_24 rfl ?_
      refine cv_iconst (v := 1) (q := 26) C dX6_isThere_25 (by decide) rfl ?_
      refine cv_icmp_ne (tgt := 33) (q := 29) C dX6_isThere_26 (by decide) rfl (fun h6 => ?_) (fun h6 => ?_)
      · have hm := cv_if_f h6 hm
        refine cv_iconst (v := 0) (q := 34) C dX6_isThere_33 (by decide) rfl ?_
        obtain rfl := Option.some.inj hm
        exact cv_zret C hr hk (cv_bool (Or.inl rfl)) dX6_isThere_34
      · have hm := cv_if_t h6 hm
        refine cv_iconst (v := 1) (q := 30) C dX6_isThere_29 (by decide) rfl ?_
        refine cv_goto (tgt := 34) C dX6_isThere_30 (by decide) ?_
        obtain rfl := Option.some.inj hm
        exact cv_zret C hr hk (cv_bool (Or.inr rfl)) dX6_isThere_34
def fX6_lessMany_L4 (S : SX6) (u1 : Int32) : Nat → Int32 → Int32 → Option (Int32)
  | 0, _, _ => none
  | n + 1, y2, y3 =>
    if u1 ≤ y3 then
      (
      some y2
      )
    else
      (
      cv_gd (0 ≤ (y3).toInt ∧ (y3).toInt < 200) <|
      cv_lt ((y2 + ((gX6_there S) (y3).toNatClampNeg))) fun x3 =>
      cv_lt (y3 + (1 : Int32)) fun x4 =>
      fX6_lessMany_L4 S u1 n x3 x4
      )
def fX6_lessMany (S : SX6) (a1 : Int32) : Option (Int32) :=
  cv_bd (fX6_lessMany_L4 S a1 256 (0 : Int32) (0 : Int32)) fun j5 =>
  some j5
abbrev rX6_lessMany : Room := { frames := 0, cells := 0, slots := 0, locals := 0 }
theorem iX6_lessMany_X6 : ∀ w ∈ u_ws RX6 TX6 50, w ∈ wsX6_lessMany := fun w h => List.mem_cons_of_mem _ (List.mem_append_right _ h)
set_option maxHeartbeats 4000000 in
set_option maxRecDepth 100000 in
theorem vX6_lessMany_L4 {p : Program} {l : Launch} {e : Env} {s : State} {m : MethodId} {args : Array Value} {below : List Frame} {meth : Method} {c : Code} {σ : Nat → Nat} {D : va_G} {A : Nat → Prop} {cy : ClassId} (q : Nat → Nat) (S : SX6) (u1 : Int32) (C : cv_C p s m args c cX6_lessMany 4 RX6 wsX6_lessMany σ D [(cy, .int)] A) {Q : State → Prop} {j : Int32} : ∀ (n : Nat) (y2 : Int32) (y3 : Int32), fX6_lessMany_L4 S u1 n y2 y3 = some j → cv_V p l e rX6_lessMany s m args below meth c 4 D A Q 0 0 (wX6 q cy S) 24 [(2, .int j)] [] → cv_V p l e rX6_lessMany s m args below meth c 4 D A Q 0 0 (wX6 q cy S) 4 [(0, .ref (q 0)), (1, .int u1), (2, .int y2), (3, .int y3)] [] := by
  intro n
  induction n with
  | zero => intro y2 y3 hm kx; cases hm
  | succ n ih =>
    intro y2 y3 hm kx
    have hm : fX6_lessMany_L4 S u1 (n + 1) y2 y3 = some j := hm
    unfold fX6_lessMany_L4 at hm
    refine cv_iload_n (i := 3) (q := 5) 3 C dX6_lessMany_4 rfl rfl rfl ?_
    refine cv_iload_n (i := 1) (q := 6) 1 C dX6_lessMany_5 rfl rfl rfl ?_
    refine cv_icmp_ge (tgt := 24) (q := 9) C dX6_lessMany_6 (by decide) rfl (fun h1 => ?_) (fun h1 => ?_)
    · have hm := cv_if_t h1 hm
      obtain rfl := Option.some.inj hm
      refine cv_sub [2] rfl ?_
      exact kx
    · have hm := cv_if_f h1 hm
      refine cv_iload_n (i := 2) (q := 10) 2 C dX6_lessMany_9 rfl rfl rfl ?_
      refine cv_aload_n (i := 0) (q := 11) 0 C dX6_lessMany_10 rfl rfl rfl ?_
      refine cv_get (q := 14) C iX6_lessMany_X6 0 rfl rfl 5 (by decide) (List.mem_of_getElem? (i := 1) rfl) rfl rfl dX6_lessMany_11 rfl ?_
      refine cv_iload_n (i := 3) (q := 15) 3 C dX6_lessMany_14 rfl rfl rfl ?_
      obtain ⟨g2, hm⟩ := cv_gd_s hm
      refine cv_iald (q := 16) C 5 0 rfl rfl (vp_in_iff.mpr g2) dX6_lessMany_15 rfl ?_
      refine cv_iadd (q := 17) C dX6_lessMany_16 rfl ?_
      obtain ⟨x3, ex3, hm⟩ := cv_lt_s hm
      refine cv_topi ex3 ?_
      refine cv_istore_n (i := 2) (lv' := [(2, .int x3), (0, .ref (q 0)), (1, .int u1), (3, .int y3)]) (q := 18) C dX6_lessMany_17 rfl (by decide) rfl rfl ?_
      obtain ⟨x4, ex4, hm⟩ := cv_lt_s hm
      refine cv_iinc (v := x4) (lv' := [(3, .int x4), (2, .int x3), (0, .ref (q 0)), (1, .int u1)]) (q := 21) 3 C dX6_lessMany_18 rfl (by rw [ex4]; rfl) (by decide) rfl rfl ?_
      refine cv_goto (tgt := 4) C dX6_lessMany_21 (by decide) ?_
      refine cv_sub [2, 3, 1, 0] rfl ?_
      exact ih x3 x4 hm kx
set_option maxHeartbeats 4000000 in
set_option maxRecDepth 100000 in
theorem KX6_lessMany {l : Launch} {σ : Nat → Nat} {D : va_G} {cy : ClassId} (q : Nat → Nat) (S : SX6) (a1 : Int32) {res : Int32} (hm : fX6_lessMany S a1 = some res) : cv_M l yX6_lessMany wsX6_lessMany rX6_lessMany σ D [(cy, .int)] [.ref (q 0), .int a1] (wX6 q cy S) (some (.int res)) (wX6 q cy S) := by
  unfold fX6_lessMany at hm
  refine cv_M.of (own := RX6) (by decide +kernel) rfl rfl (lv := [(0, .ref (q 0)), (1, .int a1)]) rfl (Nat.le_of_ble_eq_true rfl) ?_
  intro p e s m args below meth c A C hr hk
  refine cv_iconst (v := 0) (q := 1) C dX6_lessMany_0 (by decide) rfl ?_
  refine cv_istore_n (i := 2) (lv' := [(2, .int (0 : Int32)), (0, .ref (q 0)), (1, .int a1)]) (q := 2) C dX6_lessMany_1 rfl (by decide) rfl rfl ?_
  refine cv_iconst (v := 0) (q := 3) C dX6_lessMany_2 (by decide) rfl ?_
  refine cv_istore_n (i := 3) (lv' := [(3, .int (0 : Int32)), (2, .int (0 : Int32)), (0, .ref (q 0)), (1, .int a1)]) (q := 4) C dX6_lessMany_3 rfl (by decide) rfl rfl ?_
  obtain ⟨j5, hj5, hm⟩ := cv_bd_s hm
  refine cv_cut (ws' := (wX6 q cy S)) (pc' := 24) (lv' := [(2, .int j5)]) (st' := []) ?_ (fun K6 => ?_)
  · refine cv_iload_n (i := 2) (q := 25) 0 C dX6_lessMany_24 rfl rfl rfl ?_
    obtain rfl := Option.some.inj hm
    exact cv_iret C hr hk dX6_lessMany_25
  · refine cv_sub [2, 3, 1, 0] rfl ?_
    exact vX6_lessMany_L4 q S a1 C 256 (0 : Int32) (0 : Int32) hj5 K6
def fX6_tellEntry (S : SX6) (a1 : Int32) (a2 : Int32) : Option (Int32) :=
  if a2 = 0 then
    (
    cv_gd (0 ≤ (a1).toInt ∧ (a1).toInt < 100) <|
    some ((gX6_kinds S) (a1).toNatClampNeg)
    )
  else
    (
    if a2 = 1 then
      (
      cv_gd (0 ≤ (a1).toInt ∧ (a1).toInt < 100) <|
      some ((gX6_values S) (a1).toNatClampNeg)
      )
    else
      (
      if a2 = 2 then
        (
        cv_bd (fX6_depth S (0 : Int32) a1) fun r6 =>
        some r6
        )
      else
        (
        if a2 = 3 then
          (
          cv_bd (fX6_size S (0 : Int32) a1) fun r8 =>
          some r8
          )
        else
          (
          if a2 = 4 then
            (
            cv_gd (0 ≤ (a1).toInt ∧ (a1).toInt < 200) <|
            some ((gX6_left S) (a1).toNatClampNeg)
            )
          else
            (
            if a2 = 5 then
              (
              cv_gd (0 ≤ (a1).toInt ∧ (a1).toInt < 200) <|
              some ((gX6_right S) (a1).toNatClampNeg)
              )
            else
              (
              if a2 = 6 then
                (
                cv_gd (0 ≤ (a1).toInt ∧ (a1).toInt < 200) <|
                some ((gX6_above S) (a1).toNatClampNeg)
                )
              else
                (
                if a2 = 7 then
                  (
                  cv_bd (fX6_lessMany S a1) fun r16 =>
                  some r16
                  )
                else
                  (
                  some (-102 : Int32)
                  )
                )
              )
            )
          )
        )
      )
    )
abbrev rX6_tellEntry : Room := { frames := 2, cells := 0, slots := 0, locals := 48 }
theorem iX6_tellEntry_X6 : ∀ w ∈ u_ws RX6 TX6 50, w ∈ wsX6_tellEntry := fun w h => List.mem_cons_of_mem _ (List.mem_append_right _ h)
set_option maxHeartbeats 4000000 in
set_option maxRecDepth 100000 in
theorem KX6_tellEntry {l : Launch} {σ : Nat → Nat} {D : va_G} {cy : ClassId} (q : Nat → Nat) (S : SX6) (a1 : Int32) (a2 : Int32) {res : Int32} (hm : fX6_tellEntry S a1 a2 = some res) : cv_M l yX6_tellEntry wsX6_tellEntry rX6_tellEntry σ D [(cy, .int)] [.ref (q 0), .int a1, .int a2] (wX6 q cy S) (some (.int res)) (wX6 q cy S) := by
  unfold fX6_tellEntry at hm
  refine cv_M.of (own := RX6) (by decide +kernel) rfl rfl (lv := [(0, .ref (q 0)), (1, .int a1), (2, .int a2)]) rfl (Nat.le_of_ble_eq_true rfl) ?_
  intro p e s m args below meth c A C hr hk
  refine cv_iload_n (i := 2) (q := 1) 2 C dX6_tellEntry_0 rfl rfl rfl ?_
  by_cases h1 : a2 = 0
  · have hm := cv_if_t h1 hm
    refine cv_tin (tgt := 48) 0 C dX6_tellEntry_1 h1 (by decide) (by decide) rfl (by decide) ?_
    refine cv_aload_n (i := 0) (q := 49) 0 C dX6_tellEntry_48 rfl rfl rfl ?_
    refine cv_get (q := 52) C iX6_tellEntry_X6 0 rfl rfl 12 (by decide) (List.mem_of_getElem? (i := 1) rfl) rfl rfl dX6_tellEntry_49 rfl ?_
    refine cv_iload_n (i := 1) (q := 53) 1 C dX6_tellEntry_52 rfl rfl rfl ?_
    obtain ⟨g2, hm⟩ := cv_gd_s hm
    refine cv_iald (q := 54) C 11 0 rfl rfl (vp_in_iff.mpr g2) dX6_tellEntry_53 rfl ?_
    obtain rfl := Option.some.inj hm
    exact cv_iret C hr hk dX6_tellEntry_54
  · have hm := cv_if_f h1 hm
    by_cases h3 : a2 = 1
    · have hm := cv_if_t h3 hm
      refine cv_tin (tgt := 55) 1 C dX6_tellEntry_1 h3 (by decide) (by decide) rfl (by decide) ?_
      refine cv_aload_n (i := 0) (q := 56) 0 C dX6_tellEntry_55 rfl rfl rfl ?_
      refine cv_get (q := 59) C iX6_tellEntry_X6 0 rfl rfl 13 (by decide) (List.mem_of_getElem? (i := 2) rfl) rfl rfl dX6_tellEntry_56 rfl ?_
      refine cv_iload_n (i := 1) (q := 60) 1 C dX6_tellEntry_59 rfl rfl rfl ?_
      obtain ⟨g4, hm⟩ := cv_gd_s hm
      refine cv_iald (q := 61) C 12 0 rfl rfl (vp_in_iff.mpr g4) dX6_tellEntry_60 rfl ?_
      obtain rfl := Option.some.inj hm
      exact cv_iret C hr hk dX6_tellEntry_61
    · have hm := cv_if_f h3 hm
      by_cases h5 : a2 = 2
      · have hm := cv_if_t h5 hm
        refine cv_tin (tgt := 62) 2 C dX6_tellEntry_1 h5 (by decide) (by decide) rfl (by decide) ?_
        refine cv_aload_n (i := 0) (q := 63) 0 C dX6_tellEntry_62 rfl rfl rfl ?_
        refine cv_iconst (v := 0) (q := 64) C dX6_tellEntry_63 (by decide) rfl ?_
        refine cv_iload_n (i := 1) (q := 65) 1 C dX6_tellEntry_64 rfl rfl rfl ?_
        obtain ⟨r6, hr6, hm⟩ := cv_bd_s hm
        refine cv_goW (q := 68) C (KX6_depth (l := l) (σ := σ) (D := D) (cy := cy)  q  S (0 : Int32) a1 hr6) (cv_rv (As := [.int (0 : Int32), .int a1]) (st := []) (n := 2) (q0 := 0) (ci := 6) C (KX6_depth (l := l) (σ := σ) (D := D) (cy := cy)  q  S (0 : Int32) a1 hr6) rfl rfl gX6_tellEntry_X6_depth rfl ⟨rfl, rfl⟩ (by decide +kernel) rfl ⟨Nat.le_of_ble_eq_true rfl, Nat.le_of_ble_eq_true rfl⟩ rfl (Nat.le_of_ble_eq_true rfl) dX6_tellEntry_65 ⟨Nat.zero_le _, Nat.zero_le _⟩) rfl ?_
        obtain rfl := Option.some.inj hm
        exact cv_iret C hr hk dX6_tellEntry_68
      · have hm := cv_if_f h5 hm
        by_cases h7 : a2 = 3
        · have hm := cv_if_t h7 hm
          refine cv_tin (tgt := 69) 3 C dX6_tellEntry_1 h7 (by decide) (by decide) rfl (by decide) ?_
          refine cv_aload_n (i := 0) (q := 70) 0 C dX6_tellEntry_69 rfl rfl rfl ?_
          refine cv_iconst (v := 0) (q := 71) C dX6_tellEntry_70 (by decide) rfl ?_
          refine cv_iload_n (i := 1) (q := 72) 1 C dX6_tellEntry_71 rfl rfl rfl ?_
          obtain ⟨r8, hr8, hm⟩ := cv_bd_s hm
          refine cv_goW (q := 75) C (KX6_size (l := l) (σ := σ) (D := D) (cy := cy)  q  S (0 : Int32) a1 hr8) (cv_rv (As := [.int (0 : Int32), .int a1]) (st := []) (n := 2) (q0 := 0) (ci := 6) C (KX6_size (l := l) (σ := σ) (D := D) (cy := cy)  q  S (0 : Int32) a1 hr8) rfl rfl gX6_tellEntry_X6_size rfl ⟨rfl, rfl⟩ (by decide +kernel) rfl ⟨Nat.le_of_ble_eq_true rfl, Nat.le_of_ble_eq_true rfl⟩ rfl (Nat.le_of_ble_eq_true rfl) dX6_tellEntry_72 ⟨Nat.zero_le _, Nat.zero_le _⟩) rfl ?_
          obtain rfl := Option.some.inj hm
          exact cv_iret C hr hk dX6_tellEntry_75
        · have hm := cv_if_f h7 hm
          by_cases h9 : a2 = 4
          · have hm := cv_if_t h9 hm
            refine cv_tin (tgt := 76) 4 C dX6_tellEntry_1 h9 (by decide) (by decide) rfl (by decide) ?_
            refine cv_aload_n (i := 0) (q := 77) 0 C dX6_tellEntry_76 rfl rfl rfl ?_
            refine cv_get (q := 80) C iX6_tellEntry_X6 0 rfl rfl 2 (by decide) (List.mem_of_getElem? (i := 3) rfl) rfl rfl dX6_tellEntry_77 rfl ?_
            refine cv_iload_n (i := 1) (q := 81) 1 C dX6_tellEntry_80 rfl rfl rfl ?_
            obtain ⟨g10, hm⟩ := cv_gd_s hm
            refine cv_iald (q := 82) C 2 0 rfl rfl (vp_in_iff.mpr g10) dX6_tellEntry_81 rfl ?_
            obtain rfl := Option.some.inj hm
            exact cv_iret C hr hk dX6_tellEntry_82
          · have hm := cv_if_f h9 hm
            by_cases h11 : a2 = 5
            · have hm := cv_if_t h11 hm
              refine cv_tin (tgt := 83) 5 C dX6_tellEntry_1 h11 (by decide) (by decide) rfl (by decide) ?_
              refine cv_aload_n (i := 0) (q := 84) 0 C dX6_tellEntry_83 rfl rfl rfl ?_
              refine cv_get (q := 87) C iX6_tellEntry_X6 0 rfl rfl 3 (by decide) (List.mem_of_getElem? (i := 4) rfl) rfl rfl dX6_tellEntry_84 rfl ?_
              refine cv_iload_n (i := 1) (q := 88) 1 C dX6_tellEntry_87 rfl rfl rfl ?_
              obtain ⟨g12, hm⟩ := cv_gd_s hm
              refine cv_iald (q := 89) C 3 0 rfl rfl (vp_in_iff.mpr g12) dX6_tellEntry_88 rfl ?_
              obtain rfl := Option.some.inj hm
              exact cv_iret C hr hk dX6_tellEntry_89
            · have hm := cv_if_f h11 hm
              by_cases h13 : a2 = 6
              · have hm := cv_if_t h13 hm
                refine cv_tin (tgt := 90) 6 C dX6_tellEntry_1 h13 (by decide) (by decide) rfl (by decide) ?_
                refine cv_aload_n (i := 0) (q := 91) 0 C dX6_tellEntry_90 rfl rfl rfl ?_
                refine cv_get (q := 94) C iX6_tellEntry_X6 0 rfl rfl 4 (by decide) (List.mem_of_getElem? (i := 5) rfl) rfl rfl dX6_tellEntry_91 rfl ?_
                refine cv_iload_n (i := 1) (q := 95) 1 C dX6_tellEntry_94 rfl rfl rfl ?_
                obtain ⟨g14, hm⟩ := cv_gd_s hm
                refine cv_iald (q := 96) C 4 0 rfl rfl (vp_in_iff.mpr g14) dX6_tellEntry_95 rfl ?_
                obtain rfl := Option.some.inj hm
                exact cv_iret C hr hk dX6_tellEntry_96
              · have hm := cv_if_f h13 hm
                by_cases h15 : a2 = 7
                · have hm := cv_if_t h15 hm
                  refine cv_tin (tgt := 97) 7 C dX6_tellEntry_1 h15 (by decide) (by decide) rfl (by decide) ?_
                  refine cv_aload_n (i := 0) (q := 98) 0 C dX6_tellEntry_97 rfl rfl rfl ?_
                  refine cv_iload_n (i := 1) (q := 99) 1 C dX6_tellEntry_98 rfl rfl rfl ?_
                  obtain ⟨r16, hr16, hm⟩ := cv_bd_s hm
                  refine cv_goW (q := 102) C (KX6_lessMany (l := l) (σ := σ) (D := D) (cy := cy)  q  S a1 hr16) (cv_rv (As := [.int a1]) (st := []) (n := 1) (q0 := 0) (ci := 6) C (KX6_lessMany (l := l) (σ := σ) (D := D) (cy := cy)  q  S a1 hr16) rfl rfl gX6_tellEntry_X6_lessMany rfl ⟨rfl, rfl⟩ (by decide +kernel) rfl ⟨Nat.le_of_ble_eq_true rfl, Nat.le_of_ble_eq_true rfl⟩ rfl (Nat.le_of_ble_eq_true rfl) dX6_tellEntry_99 ⟨Nat.zero_le _, Nat.zero_le _⟩) rfl ?_
                  obtain rfl := Option.some.inj hm
                  exact cv_iret C hr hk dX6_tellEntry_102
                · have hm := cv_if_f h15 hm
                  refine cv_tout (tgt := 103) C dX6_tellEntry_1 (by have h1t := lv_neT (a := 0) h1 (by decide); have h3t := lv_neT (a := 1) h3 (by decide); have h5t := lv_neT (a := 2) h5 (by decide); have h7t := lv_neT (a := 3) h7 (by decide); have h9t := lv_neT (a := 4) h9 (by decide); have h11t := lv_neT (a := 5) h11 (by decide); have h13t := lv_neT (a := 6) h13 (by decide); have h15t := lv_neT (a := 7) h15 (by decide); omega) (by decide) ?_
                  refine cv_bipush (v := -102) (q := 105) C dX6_tellEntry_103 (by decide) rfl ?_
                  obtain rfl := Option.some.inj hm
                  exact cv_iret C hr hk dX6_tellEntry_105
