def fX5_count (S : SX5) (a1 : Int32) : Option (Int32) :=
  if a1 = 0 then
    (
    some (gX4_number (gX3_tree (gX5_now S)))
    )
  else
    (
    if a1 = 1 then
      (
      some (gX4_a (gX3_tree (gX5_now S)))
      )
    else
      (
      if a1 = 2 then
        (
        some (gX4_b (gX3_tree (gX5_now S)))
        )
      else
        (
        if a1 = 3 then
          (
          some (gX3_fee (gX5_now S))
          )
        else
          (
          if a1 = 4 then
            (
            some (gX0_length (gX3_log (gX5_now S)))
            )
          else
            (
            if a1 = 5 then
              (
              some (gX2_length (gX3_seen (gX5_now S)))
              )
            else
              (
              if a1 = 6 then
                (
                some (gX1_length (gX5_page S))
                )
              else
                (
                if a1 = 7 then
                  (
                  some (gX5_timesRead S)
                  )
                else
                  (
                  some (-102 : Int32)
                  )
                )
              )
            )
          )
        )
      )
    )
abbrev rX5_count : Room := { frames := 0, cells := 0, slots := 0, locals := 0 }
theorem iX5_count_X0 : ∀ w ∈ u_ws RX0 TX0 2, w ∈ wsX5_count := fun w h => List.mem_cons_of_mem _ (List.mem_append_left _ (List.mem_append_left _ (List.mem_append_right _ h)))
theorem iX5_count_X1 : ∀ w ∈ u_ws RX1 TX1 2, w ∈ wsX5_count := fun w h => List.mem_cons_of_mem _ (List.mem_append_right _ h)
theorem iX5_count_X2 : ∀ w ∈ u_ws RX2 TX2 3, w ∈ wsX5_count := fun w h => List.mem_cons_of_mem _ (List.mem_append_left _ (List.mem_append_right _ h))
theorem iX5_count_X3 : ∀ w ∈ u_ws RX3 TX3 8, w ∈ wsX5_count := fun w h => List.mem_cons_of_mem _ (List.mem_append_left _ (List.mem_append_left _ (List.mem_append_left _ (List.mem_append_left _ (List.mem_append_right _ h)))))
theorem iX5_count_X4 : ∀ w ∈ u_ws RX4 TX4 12, w ∈ wsX5_count := fun w h => List.mem_cons_of_mem _ (List.mem_append_left _ (List.mem_append_left _ (List.mem_append_left _ (List.mem_append_right _ h))))
theorem iX5_count_X5 : ∀ w ∈ u_ws RX5 TX5 7, w ∈ wsX5_count := fun w h => List.mem_cons_of_mem _ (List.mem_append_left _ (List.mem_append_left _ (List.mem_append_left _ (List.mem_append_left _ (List.mem_append_left _ (List.mem_append_right _ h))))))
set_option maxHeartbeats 4000000 in
set_option maxRecDepth 100000 in
theorem KX5_count {l : Launch} {σ : Nat → Nat} {D : va_G} {cy : ClassId} (q : Nat → Nat) (S : SX5) (a1 : Int32) {res : Int32} (hm : fX5_count S a1 = some res) : cv_M l yX5_count wsX5_count rX5_count σ D [(cy, .int)] [.ref (q 0), .int a1] (wX5 q cy S) (some (.int res)) (wX5 q cy S) := by
  unfold fX5_count at hm
  refine cv_M.of (own := RX5) (by decide +kernel) rfl rfl (lv := [(0, .ref (q 0)), (1, .int a1)]) rfl (Nat.le_of_ble_eq_true rfl) ?_
  intro p e s m args below meth c A C hr hk
  refine cv_iload_n (i := 1) (q := 1) 1 C dX5_count_0 rfl rfl rfl ?_
  by_cases h1 : a1 = 0
  · have hm := cv_if_t h1 hm
    refine cv_tin (tgt := 48) 0 C dX5_count_1 h1 (by decide) (by decide) rfl (by decide) ?_
    refine cv_aload_n (i := 0) (q := 49) 0 C dX5_count_48 rfl rfl rfl ?_
    refine cv_get (q := 52) C iX5_count_X5 0 rfl rfl 1 (by decide) (List.mem_of_getElem? (i := 1) rfl) rfl rfl dX5_count_49 rfl ?_
    refine cv_get (q := 55) C iX5_count_X3 3 rfl rfl 0 (by decide) (List.mem_of_getElem? (i := 2) rfl) rfl rfl dX5_count_52 rfl ?_
    refine cv_get (q := 58) C iX5_count_X4 4 rfl rfl 8 (by decide) (List.mem_of_getElem? (i := 3) rfl) rfl rfl dX5_count_55 rfl ?_
    obtain rfl := Option.some.inj hm
    exact cv_iret C hr hk dX5_count_58
  · have hm := cv_if_f h1 hm
    by_cases h2 : a1 = 1
    · have hm := cv_if_t h2 hm
      refine cv_tin (tgt := 59) 1 C dX5_count_1 h2 (by decide) (by decide) rfl (by decide) ?_
      refine cv_aload_n (i := 0) (q := 60) 0 C dX5_count_59 rfl rfl rfl ?_
      refine cv_get (q := 63) C iX5_count_X5 0 rfl rfl 1 (by decide) (List.mem_of_getElem? (i := 1) rfl) rfl rfl dX5_count_60 rfl ?_
      refine cv_get (q := 66) C iX5_count_X3 3 rfl rfl 0 (by decide) (List.mem_of_getElem? (i := 2) rfl) rfl rfl dX5_count_63 rfl ?_
      refine cv_get (q := 69) C iX5_count_X4 4 rfl rfl 6 (by decide) (List.mem_of_getElem? (i := 4) rfl) rfl rfl dX5_count_66 rfl ?_
      obtain rfl := Option.some.inj hm
      exact cv_iret C hr hk dX5_count_69
    · have hm := cv_if_f h2 hm
      by_cases h3 : a1 = 2
      · have hm := cv_if_t h3 hm
        refine cv_tin (tgt := 70) 2 C dX5_count_1 h3 (by decide) (by decide) rfl (by decide) ?_
        refine cv_aload_n (i := 0) (q := 71) 0 C dX5_count_70 rfl rfl rfl ?_
        refine cv_get (q := 74) C iX5_count_X5 0 rfl rfl 1 (by decide) (List.mem_of_getElem? (i := 1) rfl) rfl rfl dX5_count_71 rfl ?_
        refine cv_get (q := 77) C iX5_count_X3 3 rfl rfl 0 (by decide) (List.mem_of_getElem? (i := 2) rfl) rfl rfl dX5_count_74 rfl ?_
        refine cv_get (q := 80) C iX5_count_X4 4 rfl rfl 7 (by decide) (List.mem_of_getElem? (i := 5) rfl) rfl rfl dX5_count_77 rfl ?_
        obtain rfl := Option.some.inj hm
        exact cv_iret C hr hk dX5_count_80
      · have hm := cv_if_f h3 hm
        by_cases h4 : a1 = 3
        · have hm := cv_if_t h4 hm
          refine cv_tin (tgt := 81) 3 C dX5_count_1 h4 (by decide) (by decide) rfl (by decide) ?_
          refine cv_aload_n (i := 0) (q := 82) 0 C dX5_count_81 rfl rfl rfl ?_
          refine cv_get (q := 85) C iX5_count_X5 0 rfl rfl 1 (by decide) (List.mem_of_getElem? (i := 1) rfl) rfl rfl dX5_count_82 rfl ?_
          refine cv_get (q := 88) C iX5_count_X3 3 rfl rfl 5 (by decide) (List.mem_of_getElem? (i := 6) rfl) rfl rfl dX5_count_85 rfl ?_
          obtain rfl := Option.some.inj hm
          exact cv_iret C hr hk dX5_count_88
        · have hm := cv_if_f h4 hm
          by_cases h5 : a1 = 4
          · have hm := cv_if_t h5 hm
            refine cv_tin (tgt := 89) 4 C dX5_count_1 h5 (by decide) (by decide) rfl (by decide) ?_
            refine cv_aload_n (i := 0) (q := 90) 0 C dX5_count_89 rfl rfl rfl ?_
            refine cv_get (q := 93) C iX5_count_X5 0 rfl rfl 1 (by decide) (List.mem_of_getElem? (i := 1) rfl) rfl rfl dX5_count_90 rfl ?_
            refine cv_get (q := 96) C iX5_count_X3 3 rfl rfl 3 (by decide) (List.mem_of_getElem? (i := 7) rfl) rfl rfl dX5_count_93 rfl ?_
            refine cv_get (q := 99) C iX5_count_X0 12 rfl rfl 1 (by decide) (List.mem_of_getElem? (i := 8) rfl) rfl rfl dX5_count_96 rfl ?_
            obtain rfl := Option.some.inj hm
            exact cv_iret C hr hk dX5_count_99
          · have hm := cv_if_f h5 hm
            by_cases h6 : a1 = 5
            · have hm := cv_if_t h6 hm
              refine cv_tin (tgt := 100) 5 C dX5_count_1 h6 (by decide) (by decide) rfl (by decide) ?_
              refine cv_aload_n (i := 0) (q := 101) 0 C dX5_count_100 rfl rfl rfl ?_
              refine cv_get (q := 104) C iX5_count_X5 0 rfl rfl 1 (by decide) (List.mem_of_getElem? (i := 1) rfl) rfl rfl dX5_count_101 rfl ?_
              refine cv_get (q := 107) C iX5_count_X3 3 rfl rfl 4 (by decide) (List.mem_of_getElem? (i := 9) rfl) rfl rfl dX5_count_104 rfl ?_
              refine cv_get (q := 110) C iX5_count_X2 14 rfl rfl 2 (by decide) (List.mem_of_getElem? (i := 10) rfl) rfl rfl dX5_count_107 rfl ?_
              obtain rfl := Option.some.inj hm
              exact cv_iret C hr hk dX5_count_110
            · have hm := cv_if_f h6 hm
              by_cases h7 : a1 = 6
              · have hm := cv_if_t h7 hm
                refine cv_tin (tgt := 111) 6 C dX5_count_1 h7 (by decide) (by decide) rfl (by decide) ?_
                refine cv_aload_n (i := 0) (q := 112) 0 C dX5_count_111 rfl rfl rfl ?_
                refine cv_get (q := 115) C iX5_count_X5 0 rfl rfl 0 (by decide) (List.mem_of_getElem? (i := 11) rfl) rfl rfl dX5_count_112 rfl ?_
                refine cv_get (q := 118) C iX5_count_X1 1 rfl rfl 1 (by decide) (List.mem_of_getElem? (i := 12) rfl) rfl rfl dX5_count_115 rfl ?_
                obtain rfl := Option.some.inj hm
                exact cv_iret C hr hk dX5_count_118
              · have hm := cv_if_f h7 hm
                by_cases h8 : a1 = 7
                · have hm := cv_if_t h8 hm
                  refine cv_tin (tgt := 119) 7 C dX5_count_1 h8 (by decide) (by decide) rfl (by decide) ?_
                  refine cv_aload_n (i := 0) (q := 120) 0 C dX5_count_119 rfl rfl rfl ?_
                  refine cv_get (q := 123) C iX5_count_X5 0 rfl rfl 6 (by decide) (List.mem_of_getElem? (i := 13) rfl) rfl rfl dX5_count_120 rfl ?_
                  obtain rfl := Option.some.inj hm
                  exact cv_iret C hr hk dX5_count_123
                · have hm := cv_if_f h8 hm
                  refine cv_tout (tgt := 124) C dX5_count_1 (by have h1t := lv_neT (a := 0) h1 (by decide); have h2t := lv_neT (a := 1) h2 (by decide); have h3t := lv_neT (a := 2) h3 (by decide); have h4t := lv_neT (a := 3) h4 (by decide); have h5t := lv_neT (a := 4) h5 (by decide); have h6t := lv_neT (a := 5) h6 (by decide); have h7t := lv_neT (a := 6) h7 (by decide); have h8t := lv_neT (a := 7) h8 (by decide); omega) (by decide) ?_
                  refine cv_bipush (v := -102) (q := 126) C dX5_count_124 (by decide) rfl ?_
                  obtain rfl := Option.some.inj hm
                  exact cv_iret C hr hk dX5_count_126
def fX5_mix (a0 : Int64) (a1 : Int64) : Option (Int64) :=
  some (((31 : Int64) * a0) + a1)
abbrev rX5_mix : Room := { frames := 0, cells := 0, slots := 0, locals := 0 }
set_option maxHeartbeats 4000000 in
set_option maxRecDepth 100000 in
theorem KX5_mix {l : Launch} {σ : Nat → Nat} {D : va_G} {cy : ClassId} (a0 : Int64) (a1 : Int64) {res : Int64} (hm : fX5_mix a0 a1 = some res) : cv_M l yX5_mix wsX5_mix rX5_mix σ D [(cy, .int)] [.long a0, .long a1] [] (some (.long res)) [] := by
  unfold fX5_mix at hm
  refine cv_M.of (own := RX5) (by decide +kernel) rfl rfl (lv := [(0, .long a0), (2, .long a1)]) rfl (Nat.le_of_ble_eq_true rfl) ?_
  intro p e s m args below meth c A C hr hk
  refine cv_ldc2 (v := 31) (q := 3) C dX5_mix_0 (List.mem_of_getElem? (i := 1) rfl) rfl ?_
  refine cv_lload_n (i := 0) (q := 4) 0 C dX5_mix_3 rfl rfl rfl ?_
  refine cv_lmul (q := 5) C dX5_mix_4 rfl ?_
  refine cv_lload_n (i := 2) (q := 6) 1 C dX5_mix_5 rfl rfl rfl ?_
  refine cv_ladd (q := 7) C dX5_mix_6 rfl ?_
  obtain rfl := Option.some.inj hm
  exact cv_lret C hr hk dX5_mix_7
def fX5_mixEntries_L38 (u5 : Int32) : Nat → Int64 → Int32 → SX5 → Option (Int64 × SX5)
  | 0, _, _, _ => none
  | n + 1, y3, y6, S =>
    if (6 : Int32) < y6 then
      (
      some (y3, S)
      )
    else
      (
      cv_bd (fX5_entry S u5 y6) fun r6 =>
      cv_bd (fX5_mix y3 ((r6.1).toInt64)) fun r7 =>
      cv_lt (y6 + (1 : Int32)) fun x8 =>
      fX5_mixEntries_L38 u5 n r7 x8 r6.2
      )
def fX5_mixEntries_L5  : Nat → Int64 → Int32 → SX5 → Option (Int64 × SX5)
  | 0, _, _, _ => none
  | n + 1, y3, y5, S =>
    if (100 : Int32) ≤ y5 then
      (
      some (y3, S)
      )
    else
      (
      cv_bd (fX4_has (gX3_tree (gX5_now S)) y5) fun r2 =>
      cv_bd (
        if r2 = 0 then
          (
          some (y3, S)
          )
        else
          (
          cv_bd (fX5_mix y3 ((y5).toInt64)) fun r7 =>
          cv_bd (fX5_mixEntries_L38 y5 256 r7 (0 : Int32) S) fun j8 =>
          some (j8.1, j8.2)
          )
      ) fun j3 =>
      cv_lt (y5 + (1 : Int32)) fun x5 =>
      fX5_mixEntries_L5 n j3.1 x5 j3.2
      )
def fX5_mixEntries (S : SX5) (a1 : Int64) : Option (Int64 × SX5) :=
  cv_bd (fX5_mixEntries_L5 256 a1 (0 : Int32) S) fun j10 =>
  some (j10.1, j10.2)
abbrev rX5_mixEntries : Room := { frames := 4, cells := 0, slots := 0, locals := 88 }
theorem iX5_mixEntries_X3 : ∀ w ∈ u_ws RX3 TX3 8, w ∈ wsX5_mixEntries := fun w h => List.mem_cons_of_mem _ (List.mem_append_left _ (List.mem_append_right _ h))
theorem iX5_mixEntries_X5 : ∀ w ∈ u_ws RX5 TX5 7, w ∈ wsX5_mixEntries := fun w h => List.mem_cons_of_mem _ (List.mem_append_left _ (List.mem_append_left _ (List.mem_append_right _ h)))
set_option maxHeartbeats 4000000 in
set_option maxRecDepth 100000 in
theorem vX5_mixEntries_L38 {p : Program} {l : Launch} {e : Env} {s : State} {m : MethodId} {args : Array Value} {below : List Frame} {meth : Method} {c : Code} {σ : Nat → Nat} {D : va_G} {A : Nat → Prop} {cy : ClassId} (q : Nat → Nat) (u5 : Int32) (C : cv_C p s m args c cX5_mixEntries 7 RX5 wsX5_mixEntries σ D [(cy, .int)] A) {Q : State → Prop} {j : Int64 × SX5} : ∀ (n : Nat) (y3 : Int64) (y6 : Int32) (S : SX5), fX5_mixEntries_L38 u5 n y3 y6 S = some j → cv_V p l e rX5_mixEntries s m args below meth c 7 D A Q 0 0 (wX5 q cy j.2) 65 [(0, .ref (q 0)), (3, .long j.1), (5, .int u5)] [] → cv_V p l e rX5_mixEntries s m args below meth c 7 D A Q 0 0 (wX5 q cy S) 38 [(0, .ref (q 0)), (3, .long y3), (5, .int u5), (6, .int y6)] [] := by
  intro n
  induction n with
  | zero => intro y3 y6 S hm kx; cases hm
  | succ n ih =>
    intro y3 y6 S hm kx
    have hm : fX5_mixEntries_L38 u5 (n + 1) y3 y6 S = some j := hm
    unfold fX5_mixEntries_L38 at hm
    refine cv_iload (i := 6) (q := 40) 3 C dX5_mixEntries_38 rfl rfl ?_
    refine cv_bipush (v := 6) (q := 42) C dX5_mixEntries_40 (by decide) rfl ?_
    refine cv_icmp_gt (tgt := 65) (q := 45) C dX5_mixEntries_42 (by decide) rfl (fun h5 => ?_) (fun h5 => ?_)
    · have hm := cv_if_t h5 hm
      obtain rfl := Option.some.inj hm
      refine cv_sub [0, 1, 2] rfl ?_
      exact kx
    · have hm := cv_if_f h5 hm
      refine cv_lload_n (i := 3) (q := 46) 1 C dX5_mixEntries_45 rfl rfl rfl ?_
      refine cv_aload_n (i := 0) (q := 47) 0 C dX5_mixEntries_46 rfl rfl rfl ?_
      refine cv_iload (i := 5) (q := 49) 2 C dX5_mixEntries_47 rfl rfl ?_
      refine cv_iload (i := 6) (q := 51) 3 C dX5_mixEntries_49 rfl rfl ?_
      obtain ⟨r6, hr6, hm⟩ := cv_bd_s hm
      refine cv_goW (q := 54) C (KX5_entry (l := l) (σ := σ) (D := D) (cy := cy)  q  S u5 y6 hr6) (cv_rv (As := [.int u5, .int y6]) (st := [.long y3]) (n := 2) (q0 := 0) (ci := 5) C (KX5_entry (l := l) (σ := σ) (D := D) (cy := cy)  q  S u5 y6 hr6) rfl rfl gX5_mixEntries_X5_entry rfl ⟨rfl, rfl⟩ (by decide +kernel) rfl ⟨Nat.le_of_ble_eq_true rfl, Nat.le_of_ble_eq_true rfl⟩ rfl (Nat.le_of_ble_eq_true rfl) dX5_mixEntries_51 ⟨Nat.zero_le _, Nat.zero_le _⟩) rfl ?_
      refine cv_i2l (q := 55) C dX5_mixEntries_54 rfl ?_
      obtain ⟨r7, hr7, hm⟩ := cv_bd_s hm
      refine cv_goE (q := 58) C (KX5_mix (l := l) (σ := σ) (D := D) (cy := cy)     y3 ((r6.1).toInt64) hr7) (cv_rs (As := [.long y3, .long (r6.1).toInt64]) (st := []) (n := 2) C (KX5_mix (l := l) (σ := σ) (D := D) (cy := cy)     y3 ((r6.1).toInt64) hr7) gX5_mixEntries_X5_mix rfl ⟨rfl, rfl⟩ (by decide +kernel) rfl ⟨Nat.le_of_ble_eq_true rfl, Nat.le_of_ble_eq_true rfl⟩ rfl (Nat.le_of_ble_eq_true rfl) dX5_mixEntries_55 ⟨Nat.zero_le _, Nat.zero_le _⟩) rfl ?_
      refine cv_lstore_n (i := 3) (lv' := [(3, .long r7), (0, .ref (q 0)), (5, .int u5), (6, .int y6)]) (q := 59) C dX5_mixEntries_58 rfl (by decide) rfl rfl ?_
      obtain ⟨x8, ex8, hm⟩ := cv_lt_s hm
      refine cv_iinc (v := x8) (lv' := [(6, .int x8), (3, .long r7), (0, .ref (q 0)), (5, .int u5)]) (q := 62) 3 C dX5_mixEntries_59 rfl (by rw [ex8]; rfl) (by decide) rfl rfl ?_
      refine cv_goto (tgt := 38) C dX5_mixEntries_62 (by decide) ?_
      refine cv_sub [2, 1, 3, 0] rfl ?_
      exact ih r7 x8 r6.2 hm kx
set_option maxHeartbeats 4000000 in
set_option maxRecDepth 100000 in
theorem vX5_mixEntries_L5 {p : Program} {l : Launch} {e : Env} {s : State} {m : MethodId} {args : Array Value} {below : List Frame} {meth : Method} {c : Code} {σ : Nat → Nat} {D : va_G} {A : Nat → Prop} {cy : ClassId} (q : Nat → Nat) (C : cv_C p s m args c cX5_mixEntries 7 RX5 wsX5_mixEntries σ D [(cy, .int)] A) {Q : State → Prop} {j : Int64 × SX5} : ∀ (n : Nat) (y3 : Int64) (y5 : Int32) (S : SX5), fX5_mixEntries_L5 n y3 y5 S = some j → cv_V p l e rX5_mixEntries s m args below meth c 7 D A Q 0 0 (wX5 q cy j.2) 71 [(3, .long j.1)] [] → cv_V p l e rX5_mixEntries s m args below meth c 7 D A Q 0 0 (wX5 q cy S) 5 [(0, .ref (q 0)), (3, .long y3), (5, .int y5)] [] := by
  intro n
  induction n with
  | zero => intro y3 y5 S hm kx; cases hm
  | succ n ih =>
    intro y3 y5 S hm kx
    have hm : fX5_mixEntries_L5 (n + 1) y3 y5 S = some j := hm
    unfold fX5_mixEntries_L5 at hm
    refine cv_iload (i := 5) (q := 7) 2 C dX5_mixEntries_5 rfl rfl ?_
    refine cv_bipush (v := 100) (q := 9) C dX5_mixEntries_7 (by decide) rfl ?_
    refine cv_icmp_ge (tgt := 71) (q := 12) C dX5_mixEntries_9 (by decide) rfl (fun h1 => ?_) (fun h1 => ?_)
    · have hm := cv_if_t h1 hm
      obtain rfl := Option.some.inj hm
      refine cv_sub [1] rfl ?_
      exact kx
    · have hm := cv_if_f h1 hm
      refine cv_aload_n (i := 0) (q := 13) 0 C dX5_mixEntries_12 rfl rfl rfl ?_
      refine cv_get (q := 16) C iX5_mixEntries_X5 0 rfl rfl 1 (by decide) (List.mem_of_getElem? (i := 1) rfl) rfl rfl dX5_mixEntries_13 rfl ?_
      refine cv_get (q := 19) C iX5_mixEntries_X3 3 rfl rfl 0 (by decide) (List.mem_of_getElem? (i := 2) rfl) rfl rfl dX5_mixEntries_16 rfl ?_
      refine cv_iload (i := 5) (q := 21) 2 C dX5_mixEntries_19 rfl rfl ?_
      obtain ⟨r2, hr2, hm⟩ := cv_bd_s hm
      refine cv_go (q := 24) (ws' := (wX5 q cy S)) C (KX4_has (l := l) (σ := σ) (D := D) (cy := cy)  (cv_sh q 4)  (gX3_tree (gX5_now S)) y5 hr2) (cv_rv (As := [.int y5]) (st := []) (n := 1) (q0 := 4) (ci := 4) C (KX4_has (l := l) (σ := σ) (D := D) (cy := cy)  (cv_sh q 4)  (gX3_tree (gX5_now S)) y5 hr2) rfl rfl gX5_mixEntries_X4_has rfl ⟨rfl, rfl⟩ (by decide +kernel) rfl ⟨Nat.le_of_ble_eq_true rfl, Nat.le_of_ble_eq_true rfl⟩ rfl (Nat.le_of_ble_eq_true rfl) dX5_mixEntries_21 ⟨Nat.zero_le _, Nat.zero_le _⟩) [4, 5, 6, 7, 8, 9] [0, 1, 2, 3, 10, 11, 12, 13, 14, 15, 16, 17, 18, 19, 20, 21, 22, 23, 24, 25, 26, 27, 28, 29, 30, 31, 32, 33, 34, 35, 36] rfl (wr := cv_pk (wX5 q cy S) [0, 1, 2, 3, 10, 11, 12, 13, 14, 15, 16, 17, 18, 19, 20, 21, 22, 23, 24, 25, 26, 27, 28, 29, 30, 31, 32, 33, 34, 35, 36]) rfl (by decide) (by decide) (by decide) [0, 1, 2, 3, 31, 32, 33, 34, 35, 36, 4, 5, 6, 7, 8, 9, 10, 11, 12, 13, 14, 15, 16, 17, 18, 19, 20, 21, 22, 23, 24, 25, 26, 27, 28, 29, 30] (by decide) rfl rfl ?_
      obtain ⟨j3, hj3, hm⟩ := cv_bd_s hm
      refine cv_cut (ws' := (wX5 q cy j3.2)) (pc' := 65) (lv' := [(0, .ref (q 0)), (3, .long j3.1), (5, .int y5)]) (st' := []) ?_ (fun K4 => ?_)
      · obtain ⟨x5, ex5, hm⟩ := cv_lt_s hm
        refine cv_iinc (v := x5) (lv' := [(5, .int x5), (0, .ref (q 0)), (3, .long j3.1)]) (q := 68) 2 C dX5_mixEntries_65 rfl (by rw [ex5]; rfl) (by decide) rfl rfl ?_
        refine cv_goto (tgt := 5) C dX5_mixEntries_68 (by decide) ?_
        refine cv_sub [1, 2, 0] rfl ?_
        exact ih j3.1 x5 j3.2 hm kx
      · have hm := hj3
        refine cv_if_eq (tgt := 65) (q := 27) C dX5_mixEntries_24 (by decide) rfl (fun h6 => ?_) (fun h6 => ?_)
        · have hm := cv_if_t h6 hm
          obtain rfl := Option.some.inj hm
          exact K4
        · have hm := cv_if_f h6 hm
          refine cv_lload_n (i := 3) (q := 28) 1 C dX5_mixEntries_27 rfl rfl rfl ?_
          refine cv_iload (i := 5) (q := 30) 2 C dX5_mixEntries_28 rfl rfl ?_
          refine cv_i2l (q := 31) C dX5_mixEntries_30 rfl ?_
          obtain ⟨r7, hr7, hm⟩ := cv_bd_s hm
          refine cv_goE (q := 34) C (KX5_mix (l := l) (σ := σ) (D := D) (cy := cy)     y3 ((y5).toInt64) hr7) (cv_rs (As := [.long y3, .long (y5).toInt64]) (st := []) (n := 2) C (KX5_mix (l := l) (σ := σ) (D := D) (cy := cy)     y3 ((y5).toInt64) hr7) gX5_mixEntries_X5_mix rfl ⟨rfl, rfl⟩ (by decide +kernel) rfl ⟨Nat.le_of_ble_eq_true rfl, Nat.le_of_ble_eq_true rfl⟩ rfl (Nat.le_of_ble_eq_true rfl) dX5_mixEntries_31 ⟨Nat.zero_le _, Nat.zero_le _⟩) rfl ?_
          refine cv_lstore_n (i := 3) (lv' := [(3, .long r7), (0, .ref (q 0)), (5, .int y5)]) (q := 35) C dX5_mixEntries_34 rfl (by decide) rfl rfl ?_
          refine cv_iconst (v := 0) (q := 36) C dX5_mixEntries_35 (by decide) rfl ?_
          refine cv_istore (i := 6) (lv' := [(6, .int (0 : Int32)), (3, .long r7), (0, .ref (q 0)), (5, .int y5)]) (q := 38) C dX5_mixEntries_36 (by decide) rfl rfl ?_
          obtain ⟨j8, hj8, hm⟩ := cv_bd_s hm
          refine cv_cut (ws' := (wX5 q cy j8.2)) (pc' := 65) (lv' := [(0, .ref (q 0)), (3, .long j8.1), (5, .int y5)]) (st' := []) ?_ (fun K9 => ?_)
          · obtain rfl := Option.some.inj hm
            exact K4
          · refine cv_sub [2, 1, 3, 0] rfl ?_
            exact vX5_mixEntries_L38 q y5 C 256 r7 (0 : Int32) S hj8 K9
set_option maxHeartbeats 4000000 in
set_option maxRecDepth 100000 in
theorem KX5_mixEntries {l : Launch} {σ : Nat → Nat} {D : va_G} {cy : ClassId} (q : Nat → Nat) (S : SX5) (a1 : Int64) {res : Int64 × SX5} (hm : fX5_mixEntries S a1 = some res) : cv_M l yX5_mixEntries wsX5_mixEntries rX5_mixEntries σ D [(cy, .int)] [.ref (q 0), .long a1] (wX5 q cy S) (some (.long res.1)) (wX5 q cy res.2) := by
  unfold fX5_mixEntries at hm
  refine cv_M.of (own := RX5) (by decide +kernel) rfl rfl (lv := [(0, .ref (q 0)), (1, .long a1)]) rfl (Nat.le_of_ble_eq_true rfl) ?_
  intro p e s m args below meth c A C hr hk
  refine cv_lload_n (i := 1) (q := 1) 1 C dX5_mixEntries_0 rfl rfl rfl ?_
  refine cv_lstore_n (i := 3) (lv' := [(3, .long a1), (0, .ref (q 0)), (1, .long a1)]) (q := 2) C dX5_mixEntries_1 rfl (by decide) rfl rfl ?_
  refine cv_iconst (v := 0) (q := 3) C dX5_mixEntries_2 (by decide) rfl ?_
  refine cv_istore (i := 5) (lv' := [(5, .int (0 : Int32)), (3, .long a1), (0, .ref (q 0)), (1, .long a1)]) (q := 5) C dX5_mixEntries_3 (by decide) rfl rfl ?_
  obtain ⟨j10, hj10, hm⟩ := cv_bd_s hm
  refine cv_cut (ws' := (wX5 q cy j10.2)) (pc' := 71) (lv' := [(3, .long j10.1)]) (st' := []) ?_ (fun K11 => ?_)
  · refine cv_lload_n (i := 3) (q := 72) 0 C dX5_mixEntries_71 rfl rfl rfl ?_
    obtain rfl := Option.some.inj hm
    exact cv_lret C hr hk dX5_mixEntries_72
  · refine cv_sub [2, 1, 0] rfl ?_
    exact vX5_mixEntries_L5 q  C 256 a1 (0 : Int32) S hj10 K11
def fX5_mixShelf_L5  : Nat → Int64 → Int32 → SX5 → Option (Int64 × SX5)
  | 0, _, _, _ => none
  | n + 1, y3, y5, S =>
    if (6 : Int32) < y5 then
      (
      some (y3, S)
      )
    else
      (
      cv_bd (fX5_ledger S y5) fun r2 =>
      cv_bd (fX5_mix y3 ((r2.1).toInt64)) fun r3 =>
      cv_lt (y5 + (1 : Int32)) fun x4 =>
      fX5_mixShelf_L5 n r3 x4 r2.2
      )
def fX5_mixShelf (S : SX5) (a1 : Int64) : Option (Int64 × SX5) :=
  cv_bd (fX5_mixShelf_L5 256 a1 (0 : Int32) S) fun j5 =>
  cv_bd (fX4_isFull (gX3_tree (gX5_now j5.2))) fun r7 =>
  cv_bd (
    if r7 = 0 then
      (
      cv_bd (fX5_would j5.2 (50 : Int32)) fun r18 =>
      some ((r18.1).toInt64, r18.2)
      )
    else
      (
      some ((-1 : Int64), j5.2)
      )
  ) fun j8 =>
  cv_bd (fX5_mix j5.1 j8.1) fun r10 =>
  cv_bd (fX5_ahead j8.2) fun r11 =>
  cv_bd (fX5_mix r10 ((r11).toInt64)) fun r12 =>
  cv_bd (fX5_replay j8.2 (2 : Int32) (3 : Int32) (0 : Int32)) fun r13 =>
  cv_bd (fX5_mix r12 ((r13.1).toInt64)) fun r14 =>
  cv_bd (fX5_replay r13.2 (2 : Int32) (3 : Int32) (1 : Int32)) fun r15 =>
  cv_bd (fX5_mix r14 ((r15.1).toInt64)) fun r16 =>
  some (r16, r15.2)
abbrev rX5_mixShelf : Room := { frames := 14, cells := 0, slots := 0, locals := 334 }
theorem iX5_mixShelf_X3 : ∀ w ∈ u_ws RX3 TX3 8, w ∈ wsX5_mixShelf := fun w h => List.mem_cons_of_mem _ (List.mem_append_left _ (List.mem_append_left _ (List.mem_append_right _ h)))
theorem iX5_mixShelf_X5 : ∀ w ∈ u_ws RX5 TX5 7, w ∈ wsX5_mixShelf := fun w h => List.mem_cons_of_mem _ (List.mem_append_left _ (List.mem_append_left _ (List.mem_append_left _ (List.mem_append_right _ h))))
set_option maxHeartbeats 4000000 in
set_option maxRecDepth 100000 in
theorem vX5_mixShelf_L5 {p : Program} {l : Launch} {e : Env} {s : State} {m : MethodId} {args : Array Value} {below : List Frame} {meth : Method} {c : Code} {σ : Nat → Nat} {D : va_G} {A : Nat → Prop} {cy : ClassId} (q : Nat → Nat) (C : cv_C p s m args c cX5_mixShelf 6 RX5 wsX5_mixShelf σ D [(cy, .int)] A) {Q : State → Prop} {j : Int64 × SX5} : ∀ (n : Nat) (y3 : Int64) (y5 : Int32) (S : SX5), fX5_mixShelf_L5 n y3 y5 S = some j → cv_V p l e rX5_mixShelf s m args below meth c 6 D A Q 0 0 (wX5 q cy j.2) 30 [(0, .ref (q 0)), (3, .long j.1)] [] → cv_V p l e rX5_mixShelf s m args below meth c 6 D A Q 0 0 (wX5 q cy S) 5 [(0, .ref (q 0)), (3, .long y3), (5, .int y5)] [] := by
  intro n
  induction n with
  | zero => intro y3 y5 S hm kx; cases hm
  | succ n ih =>
    intro y3 y5 S hm kx
    have hm : fX5_mixShelf_L5 (n + 1) y3 y5 S = some j := hm
    unfold fX5_mixShelf_L5 at hm
    refine cv_iload (i := 5) (q := 7) 2 C dX5_mixShelf_5 rfl rfl ?_
    refine cv_bipush (v := 6) (q := 9) C dX5_mixShelf_7 (by decide) rfl ?_
    refine cv_icmp_gt (tgt := 30) (q := 12) C dX5_mixShelf_9 (by decide) rfl (fun h1 => ?_) (fun h1 => ?_)
    · have hm := cv_if_t h1 hm
      obtain rfl := Option.some.inj hm
      refine cv_sub [0, 1] rfl ?_
      exact kx
    · have hm := cv_if_f h1 hm
      refine cv_lload_n (i := 3) (q := 13) 1 C dX5_mixShelf_12 rfl rfl rfl ?_
      refine cv_aload_n (i := 0) (q := 14) 0 C dX5_mixShelf_13 rfl rfl rfl ?_
      refine cv_iload (i := 5) (q := 16) 2 C dX5_mixShelf_14 rfl rfl ?_
      obtain ⟨r2, hr2, hm⟩ := cv_bd_s hm
      refine cv_goW (q := 19) C (KX5_ledger (l := l) (σ := σ) (D := D) (cy := cy)  q  S y5 hr2) (cv_rv (As := [.int y5]) (st := [.long y3]) (n := 1) (q0 := 0) (ci := 5) C (KX5_ledger (l := l) (σ := σ) (D := D) (cy := cy)  q  S y5 hr2) rfl rfl gX5_mixShelf_X5_ledger rfl ⟨rfl, rfl⟩ (by decide +kernel) rfl ⟨Nat.le_of_ble_eq_true rfl, Nat.le_of_ble_eq_true rfl⟩ rfl (Nat.le_of_ble_eq_true rfl) dX5_mixShelf_16 ⟨Nat.zero_le _, Nat.zero_le _⟩) rfl ?_
      refine cv_i2l (q := 20) C dX5_mixShelf_19 rfl ?_
      obtain ⟨r3, hr3, hm⟩ := cv_bd_s hm
      refine cv_goE (q := 23) C (KX5_mix (l := l) (σ := σ) (D := D) (cy := cy)     y3 ((r2.1).toInt64) hr3) (cv_rs (As := [.long y3, .long (r2.1).toInt64]) (st := []) (n := 2) C (KX5_mix (l := l) (σ := σ) (D := D) (cy := cy)     y3 ((r2.1).toInt64) hr3) gX5_mixShelf_X5_mix rfl ⟨rfl, rfl⟩ (by decide +kernel) rfl ⟨Nat.le_of_ble_eq_true rfl, Nat.le_of_ble_eq_true rfl⟩ rfl (Nat.le_of_ble_eq_true rfl) dX5_mixShelf_20 ⟨Nat.zero_le _, Nat.zero_le _⟩) rfl ?_
      refine cv_lstore_n (i := 3) (lv' := [(3, .long r3), (0, .ref (q 0)), (5, .int y5)]) (q := 24) C dX5_mixShelf_23 rfl (by decide) rfl rfl ?_
      obtain ⟨x4, ex4, hm⟩ := cv_lt_s hm
      refine cv_iinc (v := x4) (lv' := [(5, .int x4), (3, .long r3), (0, .ref (q 0))]) (q := 27) 2 C dX5_mixShelf_24 rfl (by rw [ex4]; rfl) (by decide) rfl rfl ?_
      refine cv_goto (tgt := 5) C dX5_mixShelf_27 (by decide) ?_
      refine cv_sub [2, 1, 0] rfl ?_
      exact ih r3 x4 r2.2 hm kx
set_option maxHeartbeats 4000000 in
set_option maxRecDepth 100000 in
theorem KX5_mixShelf {l : Launch} {σ : Nat → Nat} {D : va_G} {cy : ClassId} (q : Nat → Nat) (S : SX5) (a1 : Int64) {res : Int64 × SX5} (hm : fX5_mixShelf S a1 = some res) : cv_M l yX5_mixShelf wsX5_mixShelf rX5_mixShelf σ D [(cy, .int)] [.ref (q 0), .long a1] (wX5 q cy S) (some (.long res.1)) (wX5 q cy res.2) := by
  unfold fX5_mixShelf at hm
  refine cv_M.of (own := RX5) (by decide +kernel) rfl rfl (lv := [(0, .ref (q 0)), (1, .long a1)]) rfl (Nat.le_of_ble_eq_true rfl) ?_
  intro p e s m args below meth c A C hr hk
  refine cv_lload_n (i := 1) (q := 1) 1 C dX5_mixShelf_0 rfl rfl rfl ?_
  refine cv_lstore_n (i := 3) (lv' := [(3, .long a1), (0, .ref (q 0)), (1, .long a1)]) (q := 2) C dX5_mixShelf_1 rfl (by decide) rfl rfl ?_
  refine cv_iconst (v := 0) (q := 3) C dX5_mixShelf_2 (by decide) rfl ?_
  refine cv_istore (i := 5) (lv' := [(5, .int (0 : Int32)), (3, .long a1), (0, .ref (q 0)), (1, .long a1)]) (q := 5) C dX5_mixShelf_3 (by decide) rfl rfl ?_
  obtain ⟨j5, hj5, hm⟩ := cv_bd_s hm
  refine cv_cut (ws' := (wX5 q cy j5.2)) (pc' := 30) (lv' := [(0, .ref (q 0)), (3, .long j5.1)]) (st' := []) ?_ (fun K6 => ?_)
  · refine cv_lload_n (i := 3) (q := 31) 1 C dX5_mixShelf_30 rfl rfl rfl ?_
    refine cv_aload_n (i := 0) (q := 32) 0 C dX5_mixShelf_31 rfl rfl rfl ?_
    refine cv_get (q := 35) C iX5_mixShelf_X5 0 rfl rfl 1 (by decide) (List.mem_of_getElem? (i := 1) rfl) rfl rfl dX5_mixShelf_32 rfl ?_
    refine cv_get (q := 38) C iX5_mixShelf_X3 3 rfl rfl 0 (by decide) (List.mem_of_getElem? (i := 2) rfl) rfl rfl dX5_mixShelf_35 rfl ?_
    obtain ⟨r7, hr7, hm⟩ := cv_bd_s hm
    refine cv_go (q := 41) (ws' := (wX5 q cy j5.2)) C (KX4_isFull (l := l) (σ := σ) (D := D) (cy := cy)  (cv_sh q 4)  (gX3_tree (gX5_now j5.2))  hr7) (cv_rv (As := []) (st := [.long j5.1]) (n := 0) (q0 := 4) (ci := 4) C (KX4_isFull (l := l) (σ := σ) (D := D) (cy := cy)  (cv_sh q 4)  (gX3_tree (gX5_now j5.2))  hr7) rfl rfl gX5_mixShelf_X4_isFull rfl ⟨rfl, rfl⟩ (by decide +kernel) rfl ⟨Nat.le_of_ble_eq_true rfl, Nat.le_of_ble_eq_true rfl⟩ rfl (Nat.le_of_ble_eq_true rfl) dX5_mixShelf_38 ⟨Nat.zero_le _, Nat.zero_le _⟩) [4, 5, 6, 7, 8, 9] [0, 1, 2, 3, 10, 11, 12, 13, 14, 15, 16, 17, 18, 19, 20, 21, 22, 23, 24, 25, 26, 27, 28, 29, 30, 31, 32, 33, 34, 35, 36] rfl (wr := cv_pk (wX5 q cy j5.2) [0, 1, 2, 3, 10, 11, 12, 13, 14, 15, 16, 17, 18, 19, 20, 21, 22, 23, 24, 25, 26, 27, 28, 29, 30, 31, 32, 33, 34, 35, 36]) rfl (by decide) (by decide) (by decide) [0, 1, 2, 3, 31, 32, 33, 34, 35, 36, 4, 5, 6, 7, 8, 9, 10, 11, 12, 13, 14, 15, 16, 17, 18, 19, 20, 21, 22, 23, 24, 25, 26, 27, 28, 29, 30] (by decide) rfl rfl ?_
    obtain ⟨j8, hj8, hm⟩ := cv_bd_s hm
    refine cv_cut (ws' := (wX5 q cy j8.2)) (pc' := 57) (lv' := [(0, .ref (q 0))]) (st' := [.long j8.1, .long j5.1]) ?_ (fun K9 => ?_)
    · obtain ⟨r10, hr10, hm⟩ := cv_bd_s hm
      refine cv_goE (q := 60) C (KX5_mix (l := l) (σ := σ) (D := D) (cy := cy)     j5.1 j8.1 hr10) (cv_rs (As := [.long j5.1, .long j8.1]) (st := []) (n := 2) C (KX5_mix (l := l) (σ := σ) (D := D) (cy := cy)     j5.1 j8.1 hr10) gX5_mixShelf_X5_mix rfl ⟨rfl, rfl⟩ (by decide +kernel) rfl ⟨Nat.le_of_ble_eq_true rfl, Nat.le_of_ble_eq_true rfl⟩ rfl (Nat.le_of_ble_eq_true rfl) dX5_mixShelf_57 ⟨Nat.zero_le _, Nat.zero_le _⟩) rfl ?_
      refine cv_lstore_n (i := 3) (lv' := [(3, .long r10), (0, .ref (q 0))]) (q := 61) C dX5_mixShelf_60 rfl (by decide) rfl rfl ?_
      refine cv_lload_n (i := 3) (q := 62) 0 C dX5_mixShelf_61 rfl rfl rfl ?_
      refine cv_aload_n (i := 0) (q := 63) 1 C dX5_mixShelf_62 rfl rfl rfl ?_
      obtain ⟨r11, hr11, hm⟩ := cv_bd_s hm
      refine cv_goW (q := 66) C (KX5_ahead (l := l) (σ := σ) (D := D) (cy := cy)  q  j8.2  hr11) (cv_rv (As := []) (st := [.long r10]) (n := 0) (q0 := 0) (ci := 5) C (KX5_ahead (l := l) (σ := σ) (D := D) (cy := cy)  q  j8.2  hr11) rfl rfl gX5_mixShelf_X5_ahead rfl ⟨rfl, rfl⟩ (by decide +kernel) rfl ⟨Nat.le_of_ble_eq_true rfl, Nat.le_of_ble_eq_true rfl⟩ rfl (Nat.le_of_ble_eq_true rfl) dX5_mixShelf_63 ⟨Nat.zero_le _, Nat.zero_le _⟩) rfl ?_
      refine cv_i2l (q := 67) C dX5_mixShelf_66 rfl ?_
      obtain ⟨r12, hr12, hm⟩ := cv_bd_s hm
      refine cv_goE (q := 70) C (KX5_mix (l := l) (σ := σ) (D := D) (cy := cy)     r10 ((r11).toInt64) hr12) (cv_rs (As := [.long r10, .long (r11).toInt64]) (st := []) (n := 2) C (KX5_mix (l := l) (σ := σ) (D := D) (cy := cy)     r10 ((r11).toInt64) hr12) gX5_mixShelf_X5_mix rfl ⟨rfl, rfl⟩ (by decide +kernel) rfl ⟨Nat.le_of_ble_eq_true rfl, Nat.le_of_ble_eq_true rfl⟩ rfl (Nat.le_of_ble_eq_true rfl) dX5_mixShelf_67 ⟨Nat.zero_le _, Nat.zero_le _⟩) rfl ?_
      refine cv_lstore_n (i := 3) (lv' := [(3, .long r12), (0, .ref (q 0))]) (q := 71) C dX5_mixShelf_70 rfl (by decide) rfl rfl ?_
      refine cv_lload_n (i := 3) (q := 72) 0 C dX5_mixShelf_71 rfl rfl rfl ?_
      refine cv_aload_n (i := 0) (q := 73) 1 C dX5_mixShelf_72 rfl rfl rfl ?_
      refine cv_iconst (v := 2) (q := 74) C dX5_mixShelf_73 (by decide) rfl ?_
      refine cv_iconst (v := 3) (q := 75) C dX5_mixShelf_74 (by decide) rfl ?_
      refine cv_iconst (v := 0) (q := 76) C dX5_mixShelf_75 (by decide) rfl ?_
      obtain ⟨r13, hr13, hm⟩ := cv_bd_s hm
      refine cv_goW (q := 79) C (KX5_replay (l := l) (σ := σ) (D := D) (cy := cy)  q  j8.2 (2 : Int32) (3 : Int32) (0 : Int32) hr13) (cv_rv (As := [.int (2 : Int32), .int (3 : Int32), .int (0 : Int32)]) (st := [.long r12]) (n := 3) (q0 := 0) (ci := 5) C (KX5_replay (l := l) (σ := σ) (D := D) (cy := cy)  q  j8.2 (2 : Int32) (3 : Int32) (0 : Int32) hr13) rfl rfl gX5_mixShelf_X5_replay rfl ⟨rfl, rfl⟩ (by decide +kernel) rfl ⟨Nat.le_of_ble_eq_true rfl, Nat.le_of_ble_eq_true rfl⟩ rfl (Nat.le_of_ble_eq_true rfl) dX5_mixShelf_76 ⟨Nat.zero_le _, Nat.zero_le _⟩) rfl ?_
      refine cv_i2l (q := 80) C dX5_mixShelf_79 rfl ?_
      obtain ⟨r14, hr14, hm⟩ := cv_bd_s hm
      refine cv_goE (q := 83) C (KX5_mix (l := l) (σ := σ) (D := D) (cy := cy)     r12 ((r13.1).toInt64) hr14) (cv_rs (As := [.long r12, .long (r13.1).toInt64]) (st := []) (n := 2) C (KX5_mix (l := l) (σ := σ) (D := D) (cy := cy)     r12 ((r13.1).toInt64) hr14) gX5_mixShelf_X5_mix rfl ⟨rfl, rfl⟩ (by decide +kernel) rfl ⟨Nat.le_of_ble_eq_true rfl, Nat.le_of_ble_eq_true rfl⟩ rfl (Nat.le_of_ble_eq_true rfl) dX5_mixShelf_80 ⟨Nat.zero_le _, Nat.zero_le _⟩) rfl ?_
      refine cv_lstore_n (i := 3) (lv' := [(3, .long r14), (0, .ref (q 0))]) (q := 84) C dX5_mixShelf_83 rfl (by decide) rfl rfl ?_
      refine cv_lload_n (i := 3) (q := 85) 0 C dX5_mixShelf_84 rfl rfl rfl ?_
      refine cv_aload_n (i := 0) (q := 86) 1 C dX5_mixShelf_85 rfl rfl rfl ?_
      refine cv_iconst (v := 2) (q := 87) C dX5_mixShelf_86 (by decide) rfl ?_
      refine cv_iconst (v := 3) (q := 88) C dX5_mixShelf_87 (by decide) rfl ?_
      refine cv_iconst (v := 1) (q := 89) C dX5_mixShelf_88 (by decide) rfl ?_
      obtain ⟨r15, hr15, hm⟩ := cv_bd_s hm
      refine cv_goW (q := 92) C (KX5_replay (l := l) (σ := σ) (D := D) (cy := cy)  q  r13.2 (2 : Int32) (3 : Int32) (1 : Int32) hr15) (cv_rv (As := [.int (2 : Int32), .int (3 : Int32), .int (1 : Int32)]) (st := [.long r14]) (n := 3) (q0 := 0) (ci := 5) C (KX5_replay (l := l) (σ := σ) (D := D) (cy := cy)  q  r13.2 (2 : Int32) (3 : Int32) (1 : Int32) hr15) rfl rfl gX5_mixShelf_X5_replay rfl ⟨rfl, rfl⟩ (by decide +kernel) rfl ⟨Nat.le_of_ble_eq_true rfl, Nat.le_of_ble_eq_true rfl⟩ rfl (Nat.le_of_ble_eq_true rfl) dX5_mixShelf_89 ⟨Nat.zero_le _, Nat.zero_le _⟩) rfl ?_
      refine cv_i2l (q := 93) C dX5_mixShelf_92 rfl ?_
      obtain ⟨r16, hr16, hm⟩ := cv_bd_s hm
      refine cv_goE (q := 96) C (KX5_mix (l := l) (σ := σ) (D := D) (cy := cy)     r14 ((r15.1).toInt64) hr16) (cv_rs (As := [.long r14, .long (r15.1).toInt64]) (st := []) (n := 2) C (KX5_mix (l := l) (σ := σ) (D := D) (cy := cy)     r14 ((r15.1).toInt64) hr16) gX5_mixShelf_X5_mix rfl ⟨rfl, rfl⟩ (by decide +kernel) rfl ⟨Nat.le_of_ble_eq_true rfl, Nat.le_of_ble_eq_true rfl⟩ rfl (Nat.le_of_ble_eq_true rfl) dX5_mixShelf_93 ⟨Nat.zero_le _, Nat.zero_le _⟩) rfl ?_
      obtain rfl := Option.some.inj hm
      exact cv_lret C hr hk dX5_mixShelf_96
    · have hm := hj8
      refine cv_if_eq (tgt := 50) (q := 44) C dX5_mixShelf_41 (by decide) rfl (fun h17 => ?_) (fun h17 => ?_)
      · have hm := cv_if_t h17 hm
        refine cv_aload_n (i := 0) (q := 51) 0 C dX5_mixShelf_50 rfl rfl rfl ?_
        refine cv_bipush (v := 50) (q := 53) C dX5_mixShelf_51 (by decide) rfl ?_
        obtain ⟨r18, hr18, hm⟩ := cv_bd_s hm
        refine cv_goW (q := 56) C (KX5_would (l := l) (σ := σ) (D := D) (cy := cy)  q  j5.2 (50 : Int32) hr18) (cv_rv (As := [.int (50 : Int32)]) (st := [.long j5.1]) (n := 1) (q0 := 0) (ci := 5) C (KX5_would (l := l) (σ := σ) (D := D) (cy := cy)  q  j5.2 (50 : Int32) hr18) rfl rfl gX5_mixShelf_X5_would rfl ⟨rfl, rfl⟩ (by decide +kernel) rfl ⟨Nat.le_of_ble_eq_true rfl, Nat.le_of_ble_eq_true rfl⟩ rfl (Nat.le_of_ble_eq_true rfl) dX5_mixShelf_53 ⟨Nat.zero_le _, Nat.zero_le _⟩) rfl ?_
        refine cv_i2l (q := 57) C dX5_mixShelf_56 rfl ?_
        obtain rfl := Option.some.inj hm
        refine cv_sub [0] rfl ?_
        exact K9
      · have hm := cv_if_f h17 hm
        refine cv_ldc2 (v := -1) (q := 47) C dX5_mixShelf_44 (List.mem_of_getElem? (i := 3) rfl) rfl ?_
        refine cv_goto (tgt := 57) C dX5_mixShelf_47 (by decide) ?_
        obtain rfl := Option.some.inj hm
        refine cv_sub [0] rfl ?_
        exact K9
  · refine cv_sub [2, 1, 0] rfl ?_
    exact vX5_mixShelf_L5 q  C 256 a1 (0 : Int32) S hj5 K6
def fX5_digest_L49 (S : SX5) : Nat → Int64 → Int32 → Option (Int64)
  | 0, _, _ => none
  | n + 1, y1, y3 =>
    if (gX1_length (gX5_page S)) ≤ y3 then
      (
      some y1
      )
    else
      (
      cv_gd (0 ≤ (y3).toInt ∧ (y3).toInt < 54) <|
      cv_bd (fX5_mix y1 ((((gX1_letters (gX5_page S)) (y3).toNatClampNeg)).toInt64)) fun r10 =>
      cv_lt (y3 + (1 : Int32)) fun x11 =>
      fX5_digest_L49 S n r10 x11
      )
def fX5_digest_L83 (S : SX5) : Nat → Int64 → Int32 → Option (Int64)
  | 0, _, _ => none
  | n + 1, y1, y3 =>
    if (7 : Int32) < y3 then
      (
      some y1
      )
    else
      (
      cv_bd (fX5_count S y3) fun r15 =>
      cv_bd (fX5_mix y1 ((r15).toInt64)) fun r16 =>
      cv_lt (y3 + (1 : Int32)) fun x17 =>
      fX5_digest_L83 S n r16 x17
      )
def fX5_digest (S : SX5) : Option (Int64 × SX5) :=
  cv_bd (fX5_mixEntries S (1373 : Int64)) fun r1 =>
  cv_bd (
    if (gX5_open r1.2) = 0 then
      (
      some (r1.1, r1.2)
      )
    else
      (
      cv_bd (fX5_mixShelf r1.2 r1.1) fun r21 =>
      some (r21.1, r21.2)
      )
  ) fun j2 =>
  cv_bd (fX5_sorts j2.2 (7 : Int32) (0 : Int32)) fun r4 =>
  cv_bd (fX5_mix j2.1 ((r4).toInt64)) fun r5 =>
  cv_bd (fX5_sorts j2.2 (7 : Int32) (1 : Int32)) fun r6 =>
  cv_bd (fX5_mix r5 ((r6).toInt64)) fun r7 =>
  cv_bd (fX5_digest_L49 j2.2 256 r7 (0 : Int32)) fun j12 =>
  cv_bd (fX5_digest_L83 j2.2 256 j12 (0 : Int32)) fun j18 =>
  some (j18, j2.2)
abbrev rX5_digest : Room := { frames := 15, cells := 0, slots := 0, locals := 359 }
theorem iX5_digest_X1 : ∀ w ∈ u_ws RX1 TX1 2, w ∈ wsX5_digest := fun w h => List.mem_cons_of_mem _ (List.mem_append_left _ (List.mem_append_left _ (List.mem_append_left _ (List.mem_append_left _ (List.mem_append_right _ h)))))
theorem iX5_digest_X5 : ∀ w ∈ u_ws RX5 TX5 7, w ∈ wsX5_digest := fun w h => List.mem_cons_of_mem _ (List.mem_append_left _ (List.mem_append_left _ (List.mem_append_left _ (List.mem_append_left _ (List.mem_append_left _ (List.mem_append_right _ h))))))
set_option maxHeartbeats 4000000 in
set_option maxRecDepth 100000 in
theorem vX5_digest_L49 {p : Program} {l : Launch} {e : Env} {s : State} {m : MethodId} {args : Array Value} {below : List Frame} {meth : Method} {c : Code} {σ : Nat → Nat} {D : va_G} {A : Nat → Prop} {cy : ClassId} (q : Nat → Nat) (S : SX5) (C : cv_C p s m args c cX5_digest 4 RX5 wsX5_digest σ D [(cy, .int)] A) {Q : State → Prop} {j : Int64} : ∀ (n : Nat) (y1 : Int64) (y3 : Int32), fX5_digest_L49 S n y1 y3 = some j → cv_V p l e rX5_digest s m args below meth c 4 D A Q 0 0 (wX5 q cy S) 81 [(0, .ref (q 0)), (1, .long j)] [] → cv_V p l e rX5_digest s m args below meth c 4 D A Q 0 0 (wX5 q cy S) 49 [(0, .ref (q 0)), (1, .long y1), (3, .int y3)] [] := by
  intro n
  induction n with
  | zero => intro y1 y3 hm kx; cases hm
  | succ n ih =>
    intro y1 y3 hm kx
    have hm : fX5_digest_L49 S (n + 1) y1 y3 = some j := hm
    unfold fX5_digest_L49 at hm
    refine cv_iload_n (i := 3) (q := 50) 2 C dX5_digest_49 rfl rfl rfl ?_
    refine cv_aload_n (i := 0) (q := 51) 0 C dX5_digest_50 rfl rfl rfl ?_
    refine cv_get (q := 54) C iX5_digest_X5 0 rfl rfl 0 (by decide) (List.mem_of_getElem? (i := 3) rfl) rfl rfl dX5_digest_51 rfl ?_
    refine cv_get (q := 57) C iX5_digest_X1 1 rfl rfl 1 (by decide) (List.mem_of_getElem? (i := 4) rfl) rfl rfl dX5_digest_54 rfl ?_
    refine cv_icmp_ge (tgt := 81) (q := 60) C dX5_digest_57 (by decide) rfl (fun h8 => ?_) (fun h8 => ?_)
    · have hm := cv_if_t h8 hm
      obtain rfl := Option.some.inj hm
      refine cv_sub [0, 1] rfl ?_
      exact kx
    · have hm := cv_if_f h8 hm
      refine cv_lload_n (i := 1) (q := 61) 1 C dX5_digest_60 rfl rfl rfl ?_
      refine cv_aload_n (i := 0) (q := 62) 0 C dX5_digest_61 rfl rfl rfl ?_
      refine cv_get (q := 65) C iX5_digest_X5 0 rfl rfl 0 (by decide) (List.mem_of_getElem? (i := 3) rfl) rfl rfl dX5_digest_62 rfl ?_
      refine cv_get (q := 68) C iX5_digest_X1 1 rfl rfl 0 (by decide) (List.mem_of_getElem? (i := 5) rfl) rfl rfl dX5_digest_65 rfl ?_
      refine cv_iload_n (i := 3) (q := 69) 2 C dX5_digest_68 rfl rfl rfl ?_
      obtain ⟨g9, hm⟩ := cv_gd_s hm
      refine cv_iald (q := 70) C 2 0 rfl rfl (vp_in_iff.mpr g9) dX5_digest_69 rfl ?_
      refine cv_i2l (q := 71) C dX5_digest_70 rfl ?_
      obtain ⟨r10, hr10, hm⟩ := cv_bd_s hm
      refine cv_goE (q := 74) C (KX5_mix (l := l) (σ := σ) (D := D) (cy := cy)     y1 ((((gX1_letters (gX5_page S)) (y3).toNatClampNeg)).toInt64) hr10) (cv_rs (As := [.long y1, .long (((gX1_letters (gX5_page S)) (y3).toNatClampNeg)).toInt64]) (st := []) (n := 2) C (KX5_mix (l := l) (σ := σ) (D := D) (cy := cy)     y1 ((((gX1_letters (gX5_page S)) (y3).toNatClampNeg)).toInt64) hr10) gX5_digest_X5_mix rfl ⟨rfl, rfl⟩ (by decide +kernel) rfl ⟨Nat.le_of_ble_eq_true rfl, Nat.le_of_ble_eq_true rfl⟩ rfl (Nat.le_of_ble_eq_true rfl) dX5_digest_71 ⟨Nat.zero_le _, Nat.zero_le _⟩) rfl ?_
      refine cv_lstore_n (i := 1) (lv' := [(1, .long r10), (0, .ref (q 0)), (3, .int y3)]) (q := 75) C dX5_digest_74 rfl (by decide) rfl rfl ?_
      obtain ⟨x11, ex11, hm⟩ := cv_lt_s hm
      refine cv_iinc (v := x11) (lv' := [(3, .int x11), (1, .long r10), (0, .ref (q 0))]) (q := 78) 2 C dX5_digest_75 rfl (by rw [ex11]; rfl) (by decide) rfl rfl ?_
      refine cv_goto (tgt := 49) C dX5_digest_78 (by decide) ?_
      refine cv_sub [2, 1, 0] rfl ?_
      exact ih r10 x11 hm kx
set_option maxHeartbeats 4000000 in
set_option maxRecDepth 100000 in
theorem vX5_digest_L83 {p : Program} {l : Launch} {e : Env} {s : State} {m : MethodId} {args : Array Value} {below : List Frame} {meth : Method} {c : Code} {σ : Nat → Nat} {D : va_G} {A : Nat → Prop} {cy : ClassId} (q : Nat → Nat) (S : SX5) (C : cv_C p s m args c cX5_digest 4 RX5 wsX5_digest σ D [(cy, .int)] A) {Q : State → Prop} {j : Int64} : ∀ (n : Nat) (y1 : Int64) (y3 : Int32), fX5_digest_L83 S n y1 y3 = some j → cv_V p l e rX5_digest s m args below meth c 4 D A Q 0 0 (wX5 q cy S) 106 [(1, .long j)] [] → cv_V p l e rX5_digest s m args below meth c 4 D A Q 0 0 (wX5 q cy S) 83 [(0, .ref (q 0)), (1, .long y1), (3, .int y3)] [] := by
  intro n
  induction n with
  | zero => intro y1 y3 hm kx; cases hm
  | succ n ih =>
    intro y1 y3 hm kx
    have hm : fX5_digest_L83 S (n + 1) y1 y3 = some j := hm
    unfold fX5_digest_L83 at hm
    refine cv_iload_n (i := 3) (q := 84) 2 C dX5_digest_83 rfl rfl rfl ?_
    refine cv_bipush (v := 7) (q := 86) C dX5_digest_84 (by decide) rfl ?_
    refine cv_icmp_gt (tgt := 106) (q := 89) C dX5_digest_86 (by decide) rfl (fun h14 => ?_) (fun h14 => ?_)
    · have hm := cv_if_t h14 hm
      obtain rfl := Option.some.inj hm
      refine cv_sub [1] rfl ?_
      exact kx
    · have hm := cv_if_f h14 hm
      refine cv_lload_n (i := 1) (q := 90) 1 C dX5_digest_89 rfl rfl rfl ?_
      refine cv_aload_n (i := 0) (q := 91) 0 C dX5_digest_90 rfl rfl rfl ?_
      refine cv_iload_n (i := 3) (q := 92) 2 C dX5_digest_91 rfl rfl rfl ?_
      obtain ⟨r15, hr15, hm⟩ := cv_bd_s hm
      refine cv_goW (q := 95) C (KX5_count (l := l) (σ := σ) (D := D) (cy := cy)  q  S y3 hr15) (cv_rv (As := [.int y3]) (st := [.long y1]) (n := 1) (q0 := 0) (ci := 5) C (KX5_count (l := l) (σ := σ) (D := D) (cy := cy)  q  S y3 hr15) rfl rfl gX5_digest_X5_count rfl ⟨rfl, rfl⟩ (by decide +kernel) rfl ⟨Nat.le_of_ble_eq_true rfl, Nat.le_of_ble_eq_true rfl⟩ rfl (Nat.le_of_ble_eq_true rfl) dX5_digest_92 ⟨Nat.zero_le _, Nat.zero_le _⟩) rfl ?_
      refine cv_i2l (q := 96) C dX5_digest_95 rfl ?_
      obtain ⟨r16, hr16, hm⟩ := cv_bd_s hm
      refine cv_goE (q := 99) C (KX5_mix (l := l) (σ := σ) (D := D) (cy := cy)     y1 ((r15).toInt64) hr16) (cv_rs (As := [.long y1, .long (r15).toInt64]) (st := []) (n := 2) C (KX5_mix (l := l) (σ := σ) (D := D) (cy := cy)     y1 ((r15).toInt64) hr16) gX5_digest_X5_mix rfl ⟨rfl, rfl⟩ (by decide +kernel) rfl ⟨Nat.le_of_ble_eq_true rfl, Nat.le_of_ble_eq_true rfl⟩ rfl (Nat.le_of_ble_eq_true rfl) dX5_digest_96 ⟨Nat.zero_le _, Nat.zero_le _⟩) rfl ?_
      refine cv_lstore_n (i := 1) (lv' := [(1, .long r16), (0, .ref (q 0)), (3, .int y3)]) (q := 100) C dX5_digest_99 rfl (by decide) rfl rfl ?_
      obtain ⟨x17, ex17, hm⟩ := cv_lt_s hm
      refine cv_iinc (v := x17) (lv' := [(3, .int x17), (1, .long r16), (0, .ref (q 0))]) (q := 103) 2 C dX5_digest_100 rfl (by rw [ex17]; rfl) (by decide) rfl rfl ?_
      refine cv_goto (tgt := 83) C dX5_digest_103 (by decide) ?_
      refine cv_sub [2, 1, 0] rfl ?_
      exact ih r16 x17 hm kx
set_option maxHeartbeats 4000000 in
set_option maxRecDepth 100000 in
theorem KX5_digest {l : Launch} {σ : Nat → Nat} {D : va_G} {cy : ClassId} (q : Nat → Nat) (S : SX5) {res : Int64 × SX5} (hm : fX5_digest S = some res) : cv_M l yX5_digest wsX5_digest rX5_digest σ D [(cy, .int)] [.ref (q 0)] (wX5 q cy S) (some (.long res.1)) (wX5 q cy res.2) := by
  unfold fX5_digest at hm
  refine cv_M.of (own := RX5) (by decide +kernel) rfl rfl (lv := [(0, .ref (q 0))]) rfl (Nat.le_of_ble_eq_true rfl) ?_
  intro p e s m args below meth c A C hr hk
  refine cv_aload_n (i := 0) (q := 1) 0 C dX5_digest_0 rfl rfl rfl ?_
  refine cv_ldc2 (v := 1373) (q := 4) C dX5_digest_1 (List.mem_of_getElem? (i := 1) rfl) rfl ?_
  obtain ⟨r1, hr1, hm⟩ := cv_bd_s hm
  refine cv_goW (q := 7) C (KX5_mixEntries (l := l) (σ := σ) (D := D) (cy := cy)  q  S (1373 : Int64) hr1) (cv_rv (As := [.long (1373 : Int64)]) (st := []) (n := 1) (q0 := 0) (ci := 5) C (KX5_mixEntries (l := l) (σ := σ) (D := D) (cy := cy)  q  S (1373 : Int64) hr1) rfl rfl gX5_digest_X5_mixEntries rfl ⟨rfl, rfl⟩ (by decide +kernel) rfl ⟨Nat.le_of_ble_eq_true rfl, Nat.le_of_ble_eq_true rfl⟩ rfl (Nat.le_of_ble_eq_true rfl) dX5_digest_4 ⟨Nat.zero_le _, Nat.zero_le _⟩) rfl ?_
  refine cv_lstore_n (i := 1) (lv' := [(1, .long r1.1), (0, .ref (q 0))]) (q := 8) C dX5_digest_7 rfl (by decide) rfl rfl ?_
  refine cv_aload_n (i := 0) (q := 9) 1 C dX5_digest_8 rfl rfl rfl ?_
  refine cv_get (q := 12) C iX5_digest_X5 0 rfl rfl 4 (by decide) (List.mem_of_getElem? (i := 2) rfl) rfl rfl dX5_digest_9 rfl ?_
  obtain ⟨j2, hj2, hm⟩ := cv_bd_s hm
  refine cv_cut (ws' := (wX5 q cy j2.2)) (pc' := 21) (lv' := [(0, .ref (q 0)), (1, .long j2.1)]) (st' := []) ?_ (fun K3 => ?_)
  · refine cv_lload_n (i := 1) (q := 22) 1 C dX5_digest_21 rfl rfl rfl ?_
    refine cv_aload_n (i := 0) (q := 23) 0 C dX5_digest_22 rfl rfl rfl ?_
    refine cv_bipush (v := 7) (q := 25) C dX5_digest_23 (by decide) rfl ?_
    refine cv_iconst (v := 0) (q := 26) C dX5_digest_25 (by decide) rfl ?_
    obtain ⟨r4, hr4, hm⟩ := cv_bd_s hm
    refine cv_goW (q := 29) C (KX5_sorts (l := l) (σ := σ) (D := D) (cy := cy)  q  j2.2 (7 : Int32) (0 : Int32) hr4) (cv_rv (As := [.int (7 : Int32), .int (0 : Int32)]) (st := [.long j2.1]) (n := 2) (q0 := 0) (ci := 5) C (KX5_sorts (l := l) (σ := σ) (D := D) (cy := cy)  q  j2.2 (7 : Int32) (0 : Int32) hr4) rfl rfl gX5_digest_X5_sorts rfl ⟨rfl, rfl⟩ (by decide +kernel) rfl ⟨Nat.le_of_ble_eq_true rfl, Nat.le_of_ble_eq_true rfl⟩ rfl (Nat.le_of_ble_eq_true rfl) dX5_digest_26 ⟨Nat.zero_le _, Nat.zero_le _⟩) rfl ?_
    refine cv_i2l (q := 30) C dX5_digest_29 rfl ?_
    obtain ⟨r5, hr5, hm⟩ := cv_bd_s hm
    refine cv_goE (q := 33) C (KX5_mix (l := l) (σ := σ) (D := D) (cy := cy)     j2.1 ((r4).toInt64) hr5) (cv_rs (As := [.long j2.1, .long (r4).toInt64]) (st := []) (n := 2) C (KX5_mix (l := l) (σ := σ) (D := D) (cy := cy)     j2.1 ((r4).toInt64) hr5) gX5_digest_X5_mix rfl ⟨rfl, rfl⟩ (by decide +kernel) rfl ⟨Nat.le_of_ble_eq_true rfl, Nat.le_of_ble_eq_true rfl⟩ rfl (Nat.le_of_ble_eq_true rfl) dX5_digest_30 ⟨Nat.zero_le _, Nat.zero_le _⟩) rfl ?_
    refine cv_lstore_n (i := 1) (lv' := [(1, .long r5), (0, .ref (q 0))]) (q := 34) C dX5_digest_33 rfl (by decide) rfl rfl ?_
    refine cv_lload_n (i := 1) (q := 35) 0 C dX5_digest_34 rfl rfl rfl ?_
    refine cv_aload_n (i := 0) (q := 36) 1 C dX5_digest_35 rfl rfl rfl ?_
    refine cv_bipush (v := 7) (q := 38) C dX5_digest_36 (by decide) rfl ?_
    refine cv_iconst (v := 1) (q := 39) C dX5_digest_38 (by decide) rfl ?_
    obtain ⟨r6, hr6, hm⟩ := cv_bd_s hm
    refine cv_goW (q := 42) C (KX5_sorts (l := l) (σ := σ) (D := D) (cy := cy)  q  j2.2 (7 : Int32) (1 : Int32) hr6) (cv_rv (As := [.int (7 : Int32), .int (1 : Int32)]) (st := [.long r5]) (n := 2) (q0 := 0) (ci := 5) C (KX5_sorts (l := l) (σ := σ) (D := D) (cy := cy)  q  j2.2 (7 : Int32) (1 : Int32) hr6) rfl rfl gX5_digest_X5_sorts rfl ⟨rfl, rfl⟩ (by decide +kernel) rfl ⟨Nat.le_of_ble_eq_true rfl, Nat.le_of_ble_eq_true rfl⟩ rfl (Nat.le_of_ble_eq_true rfl) dX5_digest_39 ⟨Nat.zero_le _, Nat.zero_le _⟩) rfl ?_
    refine cv_i2l (q := 43) C dX5_digest_42 rfl ?_
    obtain ⟨r7, hr7, hm⟩ := cv_bd_s hm
    refine cv_goE (q := 46) C (KX5_mix (l := l) (σ := σ) (D := D) (cy := cy)     r5 ((r6).toInt64) hr7) (cv_rs (As := [.long r5, .long (r6).toInt64]) (st := []) (n := 2) C (KX5_mix (l := l) (σ := σ) (D := D) (cy := cy)     r5 ((r6).toInt64) hr7) gX5_digest_X5_mix rfl ⟨rfl, rfl⟩ (by decide +kernel) rfl ⟨Nat.le_of_ble_eq_true rfl, Nat.le_of_ble_eq_true rfl⟩ rfl (Nat.le_of_ble_eq_true rfl) dX5_digest_43 ⟨Nat.zero_le _, Nat.zero_le _⟩) rfl ?_
    refine cv_lstore_n (i := 1) (lv' := [(1, .long r7), (0, .ref (q 0))]) (q := 47) C dX5_digest_46 rfl (by decide) rfl rfl ?_
    refine cv_iconst (v := 0) (q := 48) C dX5_digest_47 (by decide) rfl ?_
    refine cv_istore_n (i := 3) (lv' := [(3, .int (0 : Int32)), (1, .long r7), (0, .ref (q 0))]) (q := 49) C dX5_digest_48 rfl (by decide) rfl rfl ?_
    obtain ⟨j12, hj12, hm⟩ := cv_bd_s hm
    refine cv_cut (ws' := (wX5 q cy j2.2)) (pc' := 81) (lv' := [(0, .ref (q 0)), (1, .long j12)]) (st' := []) ?_ (fun K13 => ?_)
    · refine cv_iconst (v := 0) (q := 82) C dX5_digest_81 (by decide) rfl ?_
      refine cv_istore_n (i := 3) (lv' := [(3, .int (0 : Int32)), (0, .ref (q 0)), (1, .long j12)]) (q := 83) C dX5_digest_82 rfl (by decide) rfl rfl ?_
      obtain ⟨j18, hj18, hm⟩ := cv_bd_s hm
      refine cv_cut (ws' := (wX5 q cy j2.2)) (pc' := 106) (lv' := [(1, .long j18)]) (st' := []) ?_ (fun K19 => ?_)
      · refine cv_lload_n (i := 1) (q := 107) 0 C dX5_digest_106 rfl rfl rfl ?_
        obtain rfl := Option.some.inj hm
        exact cv_lret C hr hk dX5_digest_107
      · refine cv_sub [1, 2, 0] rfl ?_
        exact vX5_digest_L83 q j2.2 C 256 j12 (0 : Int32) hj18 K19
    · refine cv_sub [2, 1, 0] rfl ?_
      exact vX5_digest_L49 q j2.2 C 256 r7 (0 : Int32) hj12 K13
  · have hm := hj2
    refine cv_if_eq (tgt := 21) (q := 15) C dX5_digest_12 (by decide) rfl (fun h20 => ?_) (fun h20 => ?_)
    · have hm := cv_if_t h20 hm
      obtain rfl := Option.some.inj hm
      refine cv_sub [1, 0] rfl ?_
      exact K3
    · have hm := cv_if_f h20 hm
      refine cv_aload_n (i := 0) (q := 16) 1 C dX5_digest_15 rfl rfl rfl ?_
      refine cv_lload_n (i := 1) (q := 17) 0 C dX5_digest_16 rfl rfl rfl ?_
      obtain ⟨r21, hr21, hm⟩ := cv_bd_s hm
      refine cv_goW (q := 20) C (KX5_mixShelf (l := l) (σ := σ) (D := D) (cy := cy)  q  r1.2 r1.1 hr21) (cv_rv (As := [.long r1.1]) (st := []) (n := 1) (q0 := 0) (ci := 5) C (KX5_mixShelf (l := l) (σ := σ) (D := D) (cy := cy)  q  r1.2 r1.1 hr21) rfl rfl gX5_digest_X5_mixShelf rfl ⟨rfl, rfl⟩ (by decide +kernel) rfl ⟨Nat.le_of_ble_eq_true rfl, Nat.le_of_ble_eq_true rfl⟩ rfl (Nat.le_of_ble_eq_true rfl) dX5_digest_17 ⟨Nat.zero_le _, Nat.zero_le _⟩) rfl ?_
      refine cv_lstore_n (i := 1) (lv' := [(1, .long r21.1), (0, .ref (q 0))]) (q := 21) C dX5_digest_20 rfl (by decide) rfl rfl ?_
      obtain rfl := Option.some.inj hm
      refine cv_sub [1, 0] rfl ?_
      exact K3
