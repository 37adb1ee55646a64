def fX5_ledger (S : SX5) (a1 : Int32) : Option (Int32 × SX5) :=
  if a1 < 0 then
    (
    some ((-102 : Int32), S)
    )
  else
    (
    if a1 ≤ (6 : Int32) then
      (
      if (gX5_open S) = 0 then
        (
        some ((-103 : Int32), S)
        )
      else
        (
        if a1 = 0 then
          (
          cv_bd (fX4_tall (gX3_tree (gX5_now S))) fun r5 =>
          cv_lt (sX5_now S (sX3_tree (gX5_now S) r5.2)) fun s6 =>
          some (r5.1, s6)
          )
        else
          (
          if a1 = 1 then
            (
            cv_bd (fX4_limit (gX3_tree (gX5_now S)) (gX4_number (gX3_tree (gX5_now S)))) fun r8 =>
            some (r8, S)
            )
          else
            (
            if a1 = 2 then
              (
              some ((gX4_most (gX3_tree (gX5_now S))), S)
              )
            else
              (
              if a1 = 3 then
                (
                some (((gX3_credit (gX5_now S)) + (100000 : Int32)), S)
                )
              else
                (
                if a1 = 4 then
                  (
                  some (((gX3_lowest (gX5_now S)) + (100000 : Int32)), S)
                  )
                else
                  (
                  if a1 = 5 then
                    (
                    some ((gX4_buildings (gX3_tree (gX5_now S))), S)
                    )
                  else
                    (
                    some ((gX4_cost (gX3_tree (gX5_now S))), S)
                    )
                  )
                )
              )
            )
          )
        )
      )
    else
      (
      some ((-102 : Int32), S)
      )
    )
abbrev rX5_ledger : Room := { frames := 3, cells := 0, slots := 0, locals := 66 }
theorem iX5_ledger_X3 : ∀ w ∈ u_ws RX3 TX3 8, w ∈ wsX5_ledger := fun w h => List.mem_cons_of_mem _ (List.mem_append_left _ (List.mem_append_right _ h))
theorem iX5_ledger_X4 : ∀ w ∈ u_ws RX4 TX4 12, w ∈ wsX5_ledger := fun w h => List.mem_cons_of_mem _ (List.mem_append_right _ h)
theorem iX5_ledger_X5 : ∀ w ∈ u_ws RX5 TX5 7, w ∈ wsX5_ledger := fun w h => List.mem_cons_of_mem _ (List.mem_append_left _ (List.mem_append_left _ (List.mem_append_right _ h)))
set_option maxHeartbeats 4000000 in
set_option maxRecDepth 100000 in
theorem KX5_ledger {l : Launch} {σ : Nat → Nat} {D : va_G} {cy : ClassId} (q : Nat → Nat) (S : SX5) (a1 : Int32) {res : Int32 × SX5} (hm : fX5_ledger S a1 = some res) : cv_M l yX5_ledger wsX5_ledger rX5_ledger σ D [(cy, .int)] [.ref (q 0), .int a1] (wX5 q cy S) (some (.int res.1)) (wX5 q cy res.2) := by
  unfold fX5_ledger at hm
  refine cv_M.of (own := RX5) (by decide +kernel) rfl rfl (lv := [(0, .ref (q 0)), (1, .int a1)]) rfl (Nat.le_of_ble_eq_true rfl) ?_
  intro p e s m args below meth c A C hr hk
  refine cv_iload_n (i := 1) (q := 1) 1 C dX5_ledger_0 rfl rfl rfl ?_
  refine cv_if_lt (tgt := 10) (q := 4) C dX5_ledger_1 (by decide) rfl (fun h1 => ?_) (fun h1 => ?_)
  · have hm := cv_if_t h1 hm
    refine cv_bipush (v := -102) (q := 12) C dX5_ledger_10 (by decide) rfl ?_
    obtain rfl := Option.some.inj hm
    exact cv_iret C hr hk dX5_ledger_12
  · have hm := cv_if_f h1 hm
    refine cv_iload_n (i := 1) (q := 5) 1 C dX5_ledger_4 rfl rfl rfl ?_
    refine cv_bipush (v := 6) (q := 7) C dX5_ledger_5 (by decide) rfl ?_
    refine cv_icmp_le (tgt := 13) (q := 10) C dX5_ledger_7 (by decide) rfl (fun h2 => ?_) (fun h2 => ?_)
    · have hm := cv_if_t h2 hm
      refine cv_aload_n (i := 0) (q := 14) 0 C dX5_ledger_13 rfl rfl rfl ?_
      refine cv_get (q := 17) C iX5_ledger_X5 0 rfl rfl 4 (by decide) (List.mem_of_getElem? (i := 1) rfl) rfl rfl dX5_ledger_14 rfl ?_
      refine cv_if_ne (tgt := 23) (q := 20) C dX5_ledger_17 (by decide) rfl (fun h3 => ?_) (fun h3 => ?_)
      · have hm := cv_if_f h3 hm
        refine cv_iload_n (i := 1) (q := 24) 1 C dX5_ledger_23 rfl rfl rfl ?_
        by_cases h4 : a1 = 0
        · have hm := cv_if_t h4 hm
          refine cv_tin (tgt := 64) 0 C dX5_ledger_24 h4 (by decide) (by decide) rfl (by decide) ?_
          refine cv_aload_n (i := 0) (q := 65) 0 C dX5_ledger_64 rfl rfl rfl ?_
          refine cv_get (q := 68) C iX5_ledger_X5 0 rfl rfl 1 (by decide) (List.mem_of_getElem? (i := 2) rfl) rfl rfl dX5_ledger_65 rfl ?_
          refine cv_get (q := 71) C iX5_ledger_X3 3 rfl rfl 0 (by decide) (List.mem_of_getElem? (i := 3) rfl) rfl rfl dX5_ledger_68 rfl ?_
          obtain ⟨r5, hr5, hm⟩ := cv_bd_s hm
          obtain ⟨s6, es6, hm⟩ := cv_lt_s hm
          refine cv_go (q := 74) (ws' := (wX5 q cy s6)) C (KX4_tall (l := l) (σ := σ) (D := D) (cy := cy)  (cv_sh q 4)  (gX3_tree (gX5_now S))  hr5) (cv_rv (As := []) (st := []) (n := 0) (q0 := 4) (ci := 4) C (KX4_tall (l := l) (σ := σ) (D := D) (cy := cy)  (cv_sh q 4)  (gX3_tree (gX5_now S))  hr5) rfl rfl gX5_ledger_X4_tall rfl ⟨rfl, rfl⟩ (by decide +kernel) rfl ⟨Nat.le_of_ble_eq_true rfl, Nat.le_of_ble_eq_true rfl⟩ rfl (Nat.le_of_ble_eq_true rfl) dX5_ledger_71 ⟨Nat.zero_le _, Nat.zero_le _⟩) [4, 5, 6, 7, 8, 9] [0, 1, 2, 3, 10, 11, 12, 13, 14, 15, 16, 17, 18, 19, 20, 21, 22, 23, 24, 25, 26, 27, 28, 29, 30, 31, 32, 33, 34, 35, 36] rfl (wr := cv_pk (wX5 q cy S) [0, 1, 2, 3, 10, 11, 12, 13, 14, 15, 16, 17, 18, 19, 20, 21, 22, 23, 24, 25, 26, 27, 28, 29, 30, 31, 32, 33, 34, 35, 36]) rfl (by decide) (by decide) (by decide) [0, 1, 2, 3, 31, 32, 33, 34, 35, 36, 4, 5, 6, 7, 8, 9, 10, 11, 12, 13, 14, 15, 16, 17, 18, 19, 20, 21, 22, 23, 24, 25, 26, 27, 28, 29, 30] (by decide) (by rw [es6]; rfl) rfl ?_
          obtain rfl := Option.some.inj hm
          exact cv_iret C hr hk dX5_ledger_74
        · have hm := cv_if_f h4 hm
          by_cases h7 : a1 = 1
          · have hm := cv_if_t h7 hm
            refine cv_tin (tgt := 75) 1 C dX5_ledger_24 h7 (by decide) (by decide) rfl (by decide) ?_
            refine cv_aload_n (i := 0) (q := 76) 0 C dX5_ledger_75 rfl rfl rfl ?_
            refine cv_get (q := 79) C iX5_ledger_X5 0 rfl rfl 1 (by decide) (List.mem_of_getElem? (i := 2) rfl) rfl rfl dX5_ledger_76 rfl ?_
            refine cv_get (q := 82) C iX5_ledger_X3 3 rfl rfl 0 (by decide) (List.mem_of_getElem? (i := 3) rfl) rfl rfl dX5_ledger_79 rfl ?_
            refine cv_aload_n (i := 0) (q := 83) 0 C dX5_ledger_82 rfl rfl rfl ?_
            refine cv_get (q := 86) C iX5_ledger_X5 0 rfl rfl 1 (by decide) (List.mem_of_getElem? (i := 2) rfl) rfl rfl dX5_ledger_83 rfl ?_
            refine cv_get (q := 89) C iX5_ledger_X3 3 rfl rfl 0 (by decide) (List.mem_of_getElem? (i := 3) rfl) rfl rfl dX5_ledger_86 rfl ?_
            refine cv_get (q := 92) C iX5_ledger_X4 4 rfl rfl 8 (by decide) (List.mem_of_getElem? (i := 4) rfl) rfl rfl dX5_ledger_89 rfl ?_
            obtain ⟨r8, hr8, hm⟩ := cv_bd_s hm
            refine cv_go (q := 95) (ws' := (wX5 q cy S)) C (KX4_limit (l := l) (σ := σ) (D := D) (cy := cy)  (cv_sh q 4)  (gX3_tree (gX5_now S)) (gX4_number (gX3_tree (gX5_now S))) hr8) (cv_rv (As := [.int (gX4_number (gX3_tree (gX5_now S)))]) (st := []) (n := 1) (q0 := 4) (ci := 4) C (KX4_limit (l := l) (σ := σ) (D := D) (cy := cy)  (cv_sh q 4)  (gX3_tree (gX5_now S)) (gX4_number (gX3_tree (gX5_now S))) hr8) rfl rfl gX5_ledger_X4_limit rfl ⟨rfl, rfl⟩ (by decide +kernel) rfl ⟨Nat.le_of_ble_eq_true rfl, Nat.le_of_ble_eq_true rfl⟩ rfl (Nat.le_of_ble_eq_true rfl) dX5_ledger_92 ⟨Nat.zero_le _, Nat.zero_le _⟩) [4, 5, 6, 7, 8, 9] [0, 1, 2, 3, 10, 11, 12, 13, 14, 15, 16, 17, 18, 19, 20, 21, 22, 23, 24, 25, 26, 27, 28, 29, 30, 31, 32, 33, 34, 35, 36] rfl (wr := cv_pk (wX5 q cy S) [0, 1, 2, 3, 10, 11, 12, 13, 14, 15, 16, 17, 18, 19, 20, 21, 22, 23, 24, 25, 26, 27, 28, 29, 30, 31, 32, 33, 34, 35, 36]) rfl (by decide) (by decide) (by decide) [0, 1, 2, 3, 31, 32, 33, 34, 35, 36, 4, 5, 6, 7, 8, 9, 10, 11, 12, 13, 14, 15, 16, 17, 18, 19, 20, 21, 22, 23, 24, 25, 26, 27, 28, 29, 30] (by decide) rfl rfl ?_
            obtain rfl := Option.some.inj hm
            exact cv_iret C hr hk dX5_ledger_95
          · have hm := cv_if_f h7 hm
            by_cases h9 : a1 = 2
            · have hm := cv_if_t h9 hm
              refine cv_tin (tgt := 96) 2 C dX5_ledger_24 h9 (by decide) (by decide) rfl (by decide) ?_
              refine cv_aload_n (i := 0) (q := 97) 0 C dX5_ledger_96 rfl rfl rfl ?_
              refine cv_get (q := 100) C iX5_ledger_X5 0 rfl rfl 1 (by decide) (List.mem_of_getElem? (i := 2) rfl) rfl rfl dX5_ledger_97 rfl ?_
              refine cv_get (q := 103) C iX5_ledger_X3 3 rfl rfl 0 (by decide) (List.mem_of_getElem? (i := 3) rfl) rfl rfl dX5_ledger_100 rfl ?_
              refine cv_get (q := 106) C iX5_ledger_X4 4 rfl rfl 9 (by decide) (List.mem_of_getElem? (i := 5) rfl) rfl rfl dX5_ledger_103 rfl ?_
              obtain rfl := Option.some.inj hm
              exact cv_iret C hr hk dX5_ledger_106
            · have hm := cv_if_f h9 hm
              by_cases h10 : a1 = 3
              · have hm := cv_if_t h10 hm
                refine cv_tin (tgt := 107) 3 C dX5_ledger_24 h10 (by decide) (by decide) rfl (by decide) ?_
                refine cv_aload_n (i := 0) (q := 108) 0 C dX5_ledger_107 rfl rfl rfl ?_
                refine cv_get (q := 111) C iX5_ledger_X5 0 rfl rfl 1 (by decide) (List.mem_of_getElem? (i := 2) rfl) rfl rfl dX5_ledger_108 rfl ?_
                refine cv_get (q := 114) C iX5_ledger_X3 3 rfl rfl 6 (by decide) (List.mem_of_getElem? (i := 6) rfl) rfl rfl dX5_ledger_111 rfl ?_
                refine cv_ldc (v := 100000) (q := 116) C dX5_ledger_114 (List.mem_of_getElem? (i := 7) rfl) rfl ?_
                refine cv_iadd (q := 117) C dX5_ledger_116 rfl ?_
                obtain rfl := Option.some.inj hm
                exact cv_iret C hr hk dX5_ledger_117
              · have hm := cv_if_f h10 hm
                by_cases h11 : a1 = 4
                · have hm := cv_if_t h11 hm
                  refine cv_tin (tgt := 118) 4 C dX5_ledger_24 h11 (by decide) (by decide) rfl (by decide) ?_
                  refine cv_aload_n (i := 0) (q := 119) 0 C dX5_ledger_118 rfl rfl rfl ?_
                  refine cv_get (q := 122) C iX5_ledger_X5 0 rfl rfl 1 (by decide) (List.mem_of_getElem? (i := 2) rfl) rfl rfl dX5_ledger_119 rfl ?_
                  refine cv_get (q := 125) C iX5_ledger_X3 3 rfl rfl 7 (by decide) (List.mem_of_getElem? (i := 8) rfl) rfl rfl dX5_ledger_122 rfl ?_
                  refine cv_ldc (v := 100000) (q := 127) C dX5_ledger_125 (List.mem_of_getElem? (i := 7) rfl) rfl ?_
                  refine cv_iadd (q := 128) C dX5_ledger_127 rfl ?_
                  obtain rfl := Option.some.inj hm
                  exact cv_iret C hr hk dX5_ledger_128
                · have hm := cv_if_f h11 hm
                  by_cases h12 : a1 = 5
                  · have hm := cv_if_t h12 hm
                    refine cv_tin (tgt := 129) 5 C dX5_ledger_24 h12 (by decide) (by decide) rfl (by decide) ?_
                    refine cv_aload_n (i := 0) (q := 130) 0 C dX5_ledger_129 rfl rfl rfl ?_
                    refine cv_get (q := 133) C iX5_ledger_X5 0 rfl rfl 1 (by decide) (List.mem_of_getElem? (i := 2) rfl) rfl rfl dX5_ledger_130 rfl ?_
                    refine cv_get (q := 136) C iX5_ledger_X3 3 rfl rfl 0 (by decide) (List.mem_of_getElem? (i := 3) rfl) rfl rfl dX5_ledger_133 rfl ?_
                    refine cv_get (q := 139) C iX5_ledger_X4 4 rfl rfl 10 (by decide) (List.mem_of_getElem? (i := 9) rfl) rfl rfl dX5_ledger_136 rfl ?_
                    obtain rfl := Option.some.inj hm
                    exact cv_iret C hr hk dX5_ledger_139
                  · have hm := cv_if_f h12 hm
                    refine cv_tout (tgt := 140) C dX5_ledger_24 (by have h4t := lv_neT (a := 0) h4 (by decide); have h7t := lv_neT (a := 1) h7 (by decide); have h9t := lv_neT (a := 2) h9 (by decide); have h10t := lv_neT (a := 3) h10 (by decide); have h11t := lv_neT (a := 4) h11 (by decide); have h12t := lv_neT (a := 5) h12 (by decide); omega) (by decide) ?_
                    refine cv_aload_n (i := 0) (q := 141) 0 C dX5_ledger_140 rfl rfl rfl ?_
                    refine cv_get (q := 144) C iX5_ledger_X5 0 rfl rfl 1 (by decide) (List.mem_of_getElem? (i := 2) rfl) rfl rfl dX5_ledger_141 rfl ?_
                    refine cv_get (q := 147) C iX5_ledger_X3 3 rfl rfl 0 (by decide) (List.mem_of_getElem? (i := 3) rfl) rfl rfl dX5_ledger_144 rfl ?_
                    refine cv_get (q := 150) C iX5_ledger_X4 4 rfl rfl 11 (by decide) (List.mem_of_getElem? (i := 10) rfl) rfl rfl dX5_ledger_147 rfl ?_
                    obtain rfl := Option.some.inj hm
                    exact cv_iret C hr hk dX5_ledger_150
      · have hm := cv_if_t h3 hm
        refine cv_bipush (v := -103) (q := 22) C dX5_ledger_20 (by decide) rfl ?_
        obtain rfl := Option.some.inj hm
        exact cv_iret C hr hk dX5_ledger_22
    · have hm := cv_if_f h2 hm
      refine cv_bipush (v := -102) (q := 12) C dX5_ledger_10 (by decide) rfl ?_
      obtain rfl := Option.some.inj hm
      exact cv_iret C hr hk dX5_ledger_12
def fX5_would (S : SX5) (a1 : Int32) : Option (Int32 × SX5) :=
  cv_bd (fX5_isNoKey a1) fun r1 =>
  if r1 = 0 then
    (
    if (gX5_open S) = 0 then
      (
      some ((-103 : Int32), S)
      )
    else
      (
      cv_bd (fX4_isFull (gX3_tree (gX5_now S))) fun r4 =>
      if r4 = 0 then
        (
        cv_bd (fX4_has (gX3_tree (gX5_now S)) a1) fun r6 =>
        if r6 = 0 then
          (
          cv_bd (fX4_wouldBuild (gX3_tree (gX5_now S)) a1) fun r8 =>
          cv_lt (sX5_now S (sX3_tree (gX5_now S) r8.2)) fun s9 =>
          some (r8.1, s9)
          )
        else
          (
          some ((-1 : Int32), S)
          )
        )
      else
        (
        some ((-103 : Int32), S)
        )
      )
    )
  else
    (
    some ((-102 : Int32), S)
    )
abbrev rX5_would : Room := { frames := 3, cells := 0, slots := 0, locals := 73 }
theorem iX5_would_X3 : ∀ w ∈ u_ws RX3 TX3 8, w ∈ wsX5_would := fun w h => List.mem_cons_of_mem _ (List.mem_append_left _ (List.mem_append_right _ h))
theorem iX5_would_X5 : ∀ w ∈ u_ws RX5 TX5 7, w ∈ wsX5_would := fun w h => List.mem_cons_of_mem _ (List.mem_append_left _ (List.mem_append_left _ (List.mem_append_right _ h)))
set_option maxHeartbeats 4000000 in
set_option maxRecDepth 100000 in
theorem KX5_would {l : Launch} {σ : Nat → Nat} {D : va_G} {cy : ClassId} (q : Nat → Nat) (S : SX5) (a1 : Int32) {res : Int32 × SX5} (hm : fX5_would S a1 = some res) : cv_M l yX5_would wsX5_would rX5_would σ D [(cy, .int)] [.ref (q 0), .int a1] (wX5 q cy S) (some (.int res.1)) (wX5 q cy res.2) := by
  unfold fX5_would at hm
  refine cv_M.of (own := RX5) (by decide +kernel) rfl rfl (lv := [(0, .ref (q 0)), (1, .int a1)]) rfl (Nat.le_of_ble_eq_true rfl) ?_
  intro p e s m args below meth c A C hr hk
  refine cv_iload_n (i := 1) (q := 1) 1 C dX5_would_0 rfl rfl rfl ?_
  obtain ⟨r1, hr1, hm⟩ := cv_bd_s hm
  refine cv_goE (q := 4) C (KX5_isNoKey (l := l) (σ := σ) (D := D) (cy := cy)     a1 hr1) (cv_rs (As := [.int a1]) (st := []) (n := 1) C (KX5_isNoKey (l := l) (σ := σ) (D := D) (cy := cy)     a1 hr1) gX5_would_X5_isNoKey rfl ⟨rfl, rfl⟩ (by decide +kernel) rfl ⟨Nat.le_of_ble_eq_true rfl, Nat.le_of_ble_eq_true rfl⟩ rfl (Nat.le_of_ble_eq_true rfl) dX5_would_1 ⟨Nat.zero_le _, Nat.zero_le _⟩) rfl ?_
  refine cv_if_eq (tgt := 10) (q := 7) C dX5_would_4 (by decide) rfl (fun h2 => ?_) (fun h2 => ?_)
  · have hm := cv_if_t h2 hm
    refine cv_aload_n (i := 0) (q := 11) 0 C dX5_would_10 rfl rfl rfl ?_
    refine cv_get (q := 14) C iX5_would_X5 0 rfl rfl 4 (by decide) (List.mem_of_getElem? (i := 1) rfl) rfl rfl dX5_would_11 rfl ?_
    refine cv_if_eq (tgt := 30) (q := 17) C dX5_would_14 (by decide) rfl (fun h3 => ?_) (fun h3 => ?_)
    · have hm := cv_if_t h3 hm
      refine cv_bipush (v := -103) (q := 32) C dX5_would_30 (by decide) rfl ?_
      obtain rfl := Option.some.inj hm
      exact cv_iret C hr hk dX5_would_32
    · have hm := cv_if_f h3 hm
      refine cv_aload_n (i := 0) (q := 18) 0 C dX5_would_17 rfl rfl rfl ?_
      refine cv_get (q := 21) C iX5_would_X5 0 rfl rfl 1 (by decide) (List.mem_of_getElem? (i := 2) rfl) rfl rfl dX5_would_18 rfl ?_
      refine cv_get (q := 24) C iX5_would_X3 3 rfl rfl 0 (by decide) (List.mem_of_getElem? (i := 3) rfl) rfl rfl dX5_would_21 rfl ?_
      obtain ⟨r4, hr4, hm⟩ := cv_bd_s hm
      refine cv_go (q := 27) (ws' := (wX5 q cy S)) C (KX4_isFull (l := l) (σ := σ) (D := D) (cy := cy)  (cv_sh q 4)  (gX3_tree (gX5_now S))  hr4) (cv_rv (As := []) (st := []) (n := 0) (q0 := 4) (ci := 4) C (KX4_isFull (l := l) (σ := σ) (D := D) (cy := cy)  (cv_sh q 4)  (gX3_tree (gX5_now S))  hr4) rfl rfl gX5_would_X4_isFull rfl ⟨rfl, rfl⟩ (by decide +kernel) rfl ⟨Nat.le_of_ble_eq_true rfl, Nat.le_of_ble_eq_true rfl⟩ rfl (Nat.le_of_ble_eq_true rfl) dX5_would_24 ⟨Nat.zero_le _, Nat.zero_le _⟩) [4, 5, 6, 7, 8, 9] [0, 1, 2, 3, 10, 11, 12, 13, 14, 15, 16, 17, 18, 19, 20, 21, 22, 23, 24, 25, 26, 27, 28, 29, 30, 31, 32, 33, 34, 35, 36] rfl (wr := cv_pk (wX5 q cy S) [0, 1, 2, 3, 10, 11, 12, 13, 14, 15, 16, 17, 18, 19, 20, 21, 22, 23, 24, 25, 26, 27, 28, 29, 30, 31, 32, 33, 34, 35, 36]) rfl (by decide) (by decide) (by decide) [0, 1, 2, 3, 31, 32, 33, 34, 35, 36, 4, 5, 6, 7, 8, 9, 10, 11, 12, 13, 14, 15, 16, 17, 18, 19, 20, 21, 22, 23, 24, 25, 26, 27, 28, 29, 30] (by decide) rfl rfl ?_
      refine cv_if_eq (tgt := 33) (q := 30) C dX5_would_27 (by decide) rfl (fun h5 => ?_) (fun h5 => ?_)
      · have hm := cv_if_t h5 hm
        refine cv_aload_n (i := 0) (q := 34) 0 C dX5_would_33 rfl rfl rfl ?_
        refine cv_get (q := 37) C iX5_would_X5 0 rfl rfl 1 (by decide) (List.mem_of_getElem? (i := 2) rfl) rfl rfl dX5_would_34 rfl ?_
        refine cv_get (q := 40) C iX5_would_X3 3 rfl rfl 0 (by decide) (List.mem_of_getElem? (i := 3) rfl) rfl rfl dX5_would_37 rfl ?_
        refine cv_iload_n (i := 1) (q := 41) 1 C dX5_would_40 rfl rfl rfl ?_
        obtain ⟨r6, hr6, hm⟩ := cv_bd_s hm
        refine cv_go (q := 44) (ws' := (wX5 q cy S)) C (KX4_has (l := l) (σ := σ) (D := D) (cy := cy)  (cv_sh q 4)  (gX3_tree (gX5_now S)) a1 hr6) (cv_rv (As := [.int a1]) (st := []) (n := 1) (q0 := 4) (ci := 4) C (KX4_has (l := l) (σ := σ) (D := D) (cy := cy)  (cv_sh q 4)  (gX3_tree (gX5_now S)) a1 hr6) rfl rfl gX5_would_X4_has rfl ⟨rfl, rfl⟩ (by decide +kernel) rfl ⟨Nat.le_of_ble_eq_true rfl, Nat.le_of_ble_eq_true rfl⟩ rfl (Nat.le_of_ble_eq_true rfl) dX5_would_41 ⟨Nat.zero_le _, Nat.zero_le _⟩) [4, 5, 6, 7, 8, 9] [0, 1, 2, 3, 10, 11, 12, 13, 14, 15, 16, 17, 18, 19, 20, 21, 22, 23, 24, 25, 26, 27, 28, 29, 30, 31, 32, 33, 34, 35, 36] rfl (wr := cv_pk (wX5 q cy S) [0, 1, 2, 3, 10, 11, 12, 13, 14, 15, 16, 17, 18, 19, 20, 21, 22, 23, 24, 25, 26, 27, 28, 29, 30, 31, 32, 33, 34, 35, 36]) rfl (by decide) (by decide) (by decide) [0, 1, 2, 3, 31, 32, 33, 34, 35, 36, 4, 5, 6, 7, 8, 9, 10, 11, 12, 13, 14, 15, 16, 17, 18, 19, 20, 21, 22, 23, 24, 25, 26, 27, 28, 29, 30] (by decide) rfl rfl ?_
        refine cv_if_eq (tgt := 51) (q := 47) C dX5_would_44 (by decide) rfl (fun h7 => ?_) (fun h7 => ?_)
        · have hm := cv_if_t h7 hm
          refine cv_aload_n (i := 0) (q := 52) 0 C dX5_would_51 rfl rfl rfl ?_
          refine cv_get (q := 55) C iX5_would_X5 0 rfl rfl 1 (by decide) (List.mem_of_getElem? (i := 2) rfl) rfl rfl dX5_would_52 rfl ?_
          refine cv_get (q := 58) C iX5_would_X3 3 rfl rfl 0 (by decide) (List.mem_of_getElem? (i := 3) rfl) rfl rfl dX5_would_55 rfl ?_
          refine cv_iload_n (i := 1) (q := 59) 1 C dX5_would_58 rfl rfl rfl ?_
          obtain ⟨r8, hr8, hm⟩ := cv_bd_s hm
          obtain ⟨s9, es9, hm⟩ := cv_lt_s hm
          refine cv_go (q := 62) (ws' := (wX5 q cy s9)) C (KX4_wouldBuild (l := l) (σ := σ) (D := D) (cy := cy)  (cv_sh q 4)  (gX3_tree (gX5_now S)) a1 hr8) (cv_rv (As := [.int a1]) (st := []) (n := 1) (q0 := 4) (ci := 4) C (KX4_wouldBuild (l := l) (σ := σ) (D := D) (cy := cy)  (cv_sh q 4)  (gX3_tree (gX5_now S)) a1 hr8) rfl rfl gX5_would_X4_wouldBuild rfl ⟨rfl, rfl⟩ (by decide +kernel) rfl ⟨Nat.le_of_ble_eq_true rfl, Nat.le_of_ble_eq_true rfl⟩ rfl (Nat.le_of_ble_eq_true rfl) dX5_would_59 ⟨Nat.zero_le _, Nat.zero_le _⟩) [4, 5, 6, 7, 8, 9] [0, 1, 2, 3, 10, 11, 12, 13, 14, 15, 16, 17, 18, 19, 20, 21, 22, 23, 24, 25, 26, 27, 28, 29, 30, 31, 32, 33, 34, 35, 36] rfl (wr := cv_pk (wX5 q cy S) [0, 1, 2, 3, 10, 11, 12, 13, 14, 15, 16, 17, 18, 19, 20, 21, 22, 23, 24, 25, 26, 27, 28, 29, 30, 31, 32, 33, 34, 35, 36]) rfl (by decide) (by decide) (by decide) [0, 1, 2, 3, 31, 32, 33, 34, 35, 36, 4, 5, 6, 7, 8, 9, 10, 11, 12, 13, 14, 15, 16, 17, 18, 19, 20, 21, 22, 23, 24, 25, 26, 27, 28, 29, 30] (by decide) (by rw [es9]; rfl) rfl ?_
          obtain rfl := Option.some.inj hm
          exact cv_iret C hr hk dX5_would_62
        · have hm := cv_if_f h7 hm
          refine cv_iconst (v := -1) (q := 48) C dX5_would_47 (by decide) rfl ?_
          refine cv_goto (tgt := 62) C dX5_would_48 (by decide) ?_
          obtain rfl := Option.some.inj hm
          exact cv_iret C hr hk dX5_would_62
      · have hm := cv_if_f h5 hm
        refine cv_bipush (v := -103) (q := 32) C dX5_would_30 (by decide) rfl ?_
        obtain rfl := Option.some.inj hm
        exact cv_iret C hr hk dX5_would_32
  · have hm := cv_if_f h2 hm
    refine cv_bipush (v := -102) (q := 9) C dX5_would_7 (by decide) rfl ?_
    obtain rfl := Option.some.inj hm
    exact cv_iret C hr hk dX5_would_9
def fX5_dear_L44 (u1 : Int32) : Nat → Int32 → Int32 → Int32 → SX5 → Option (Int32 × Int32 × SX5)
  | 0, _, _, _, _ => none
  | n + 1, y2, y3, y4, S =>
    if (100 : Int32) ≤ y4 then
      (
      some (y2, y3, S)
      )
    else
      (
      cv_bd (fX4_has (gX3_tree (gX5_now S)) y4) fun r7 =>
      cv_bd (
        if r7 = 0 then
          (
          cv_bd (fX4_wouldBuild (gX3_tree (gX5_now S)) y4) fun r15 =>
          cv_lt (sX5_now S (sX3_tree (gX5_now S) r15.2)) fun s16 =>
          some (r15.1, s16)
          )
        else
          (
          some ((-1 : Int32), S)
          )
      ) fun j8 =>
      cv_bd (
        if j8.1 ≤ y3 then
          (
          some (y2, y3)
          )
        else
          (
          some (y4, j8.1)
          )
      ) fun j10 =>
      cv_lt (y4 + (1 : Int32)) fun x12 =>
      fX5_dear_L44 u1 n j10.1 j10.2 x12 j8.2
      )
def fX5_dear (S : SX5) (a1 : Int32) : Option (Int32 × SX5) :=
  if a1 < 0 then
    (
    some ((-102 : Int32), S)
    )
  else
    (
    if a1 ≤ (1 : Int32) then
      (
      if (gX5_open S) = 0 then
        (
        some ((-103 : Int32), S)
        )
      else
        (
        cv_bd (fX4_isFull (gX3_tree (gX5_now S))) fun r4 =>
        if r4 = 0 then
          (
          cv_bd (fX5_dear_L44 a1 256 (-1 : Int32) (-1 : Int32) (0 : Int32) S) fun j17 =>
          if a1 = 0 then
            (
            some (j17.1, j17.2.2)
            )
          else
            (
            some (j17.2.1, j17.2.2)
            )
          )
        else
          (
          some ((-1 : Int32), S)
          )
        )
      )
    else
      (
      some ((-102 : Int32), S)
      )
    )
abbrev rX5_dear : Room := { frames := 3, cells := 0, slots := 0, locals := 73 }
theorem iX5_dear_X3 : ∀ w ∈ u_ws RX3 TX3 8, w ∈ wsX5_dear := fun w h => List.mem_cons_of_mem _ (List.mem_append_left _ (List.mem_append_right _ h))
theorem iX5_dear_X5 : ∀ w ∈ u_ws RX5 TX5 7, w ∈ wsX5_dear := fun w h => List.mem_cons_of_mem _ (List.mem_append_left _ (List.mem_append_left _ (List.mem_append_right _ h)))
set_option maxHeartbeats 4000000 in
set_option maxRecDepth 100000 in
theorem vX5_dear_L44 {p : Program} {l : Launch} {e : Env} {s : State} {m : MethodId} {args : Array Value} {below : List Frame} {meth : Method} {c : Code} {σ : Nat → Nat} {D : va_G} {A : Nat → Prop} {cy : ClassId} (q : Nat → Nat) (u1 : Int32) (C : cv_C p s m args c cX5_dear 6 RX5 wsX5_dear σ D [(cy, .int)] A) {Q : State → Prop} {j : Int32 × Int32 × SX5} : ∀ (n : Nat) (y2 : Int32) (y3 : Int32) (y4 : Int32) (S : SX5), fX5_dear_L44 u1 n y2 y3 y4 S = some j → cv_V p l e rX5_dear s m args below meth c 6 D A Q 0 0 (wX5 q cy j.2.2) 102 [(1, .int u1), (2, .int j.1), (3, .int j.2.1)] [] → cv_V p l e rX5_dear s m args below meth c 6 D A Q 0 0 (wX5 q cy S) 44 [(0, .ref (q 0)), (1, .int u1), (2, .int y2), (3, .int y3), (4, .int y4)] [] := by
  intro n
  induction n with
  | zero => intro y2 y3 y4 S hm kx; cases hm
  | succ n ih =>
    intro y2 y3 y4 S hm kx
    have hm : fX5_dear_L44 u1 (n + 1) y2 y3 y4 S = some j := hm
    unfold fX5_dear_L44 at hm
    refine cv_iload (i := 4) (q := 46) 4 C dX5_dear_44 rfl rfl ?_
    refine cv_bipush (v := 100) (q := 48) C dX5_dear_46 (by decide) rfl ?_
    refine cv_icmp_ge (tgt := 102) (q := 51) C dX5_dear_48 (by decide) rfl (fun h6 => ?_) (fun h6 => ?_)
    · have hm := cv_if_t h6 hm
      obtain rfl := Option.some.inj hm
      refine cv_sub [1, 2, 3] rfl ?_
      exact kx
    · have hm := cv_if_f h6 hm
      refine cv_aload_n (i := 0) (q := 52) 0 C dX5_dear_51 rfl rfl rfl ?_
      refine cv_get (q := 55) C iX5_dear_X5 0 rfl rfl 1 (by decide) (List.mem_of_getElem? (i := 2) rfl) rfl rfl dX5_dear_52 rfl ?_
      refine cv_get (q := 58) C iX5_dear_X3 3 rfl rfl 0 (by decide) (List.mem_of_getElem? (i := 3) rfl) rfl rfl dX5_dear_55 rfl ?_
      refine cv_iload (i := 4) (q := 60) 4 C dX5_dear_58 rfl rfl ?_
      obtain ⟨r7, hr7, hm⟩ := cv_bd_s hm
      refine cv_go (q := 63) (ws' := (wX5 q cy S)) C (KX4_has (l := l) (σ := σ) (D := D) (cy := cy)  (cv_sh q 4)  (gX3_tree (gX5_now S)) y4 hr7) (cv_rv (As := [.int y4]) (st := []) (n := 1) (q0 := 4) (ci := 4) C (KX4_has (l := l) (σ := σ) (D := D) (cy := cy)  (cv_sh q 4)  (gX3_tree (gX5_now S)) y4 hr7) rfl rfl gX5_dear_X4_has rfl ⟨rfl, rfl⟩ (by decide +kernel) rfl ⟨Nat.le_of_ble_eq_true rfl, Nat.le_of_ble_eq_true rfl⟩ rfl (Nat.le_of_ble_eq_true rfl) dX5_dear_60 ⟨Nat.zero_le _, Nat.zero_le _⟩) [4, 5, 6, 7, 8, 9] [0, 1, 2, 3, 10, 11, 12, 13, 14, 15, 16, 17, 18, 19, 20, 21, 22, 23, 24, 25, 26, 27, 28, 29, 30, 31, 32, 33, 34, 35, 36] rfl (wr := cv_pk (wX5 q cy S) [0, 1, 2, 3, 10, 11, 12, 13, 14, 15, 16, 17, 18, 19, 20, 21, 22, 23, 24, 25, 26, 27, 28, 29, 30, 31, 32, 33, 34, 35, 36]) rfl (by decide) (by decide) (by decide) [0, 1, 2, 3, 31, 32, 33, 34, 35, 36, 4, 5, 6, 7, 8, 9, 10, 11, 12, 13, 14, 15, 16, 17, 18, 19, 20, 21, 22, 23, 24, 25, 26, 27, 28, 29, 30] (by decide) rfl rfl ?_
      obtain ⟨j8, hj8, hm⟩ := cv_bd_s hm
      refine cv_cut (ws' := (wX5 q cy j8.2)) (pc' := 82) (lv' := [(0, .ref (q 0)), (1, .int u1), (2, .int y2), (3, .int y3), (4, .int y4)]) (st' := [.int j8.1]) ?_ (fun K9 => ?_)
      · refine cv_istore (i := 5) (lv' := [(5, .int j8.1), (0, .ref (q 0)), (1, .int u1), (2, .int y2), (3, .int y3), (4, .int y4)]) (q := 84) C dX5_dear_82 (by decide) rfl rfl ?_
        refine cv_iload (i := 5) (q := 86) 0 C dX5_dear_84 rfl rfl ?_
        refine cv_iload_n (i := 3) (q := 87) 4 C dX5_dear_86 rfl rfl rfl ?_
        obtain ⟨j10, hj10, hm⟩ := cv_bd_s hm
        refine cv_cut (ws' := (wX5 q cy j8.2)) (pc' := 96) (lv' := [(0, .ref (q 0)), (1, .int u1), (2, .int j10.1), (3, .int j10.2), (4, .int y4)]) (st' := []) ?_ (fun K11 => ?_)
        · obtain ⟨x12, ex12, hm⟩ := cv_lt_s hm
          refine cv_iinc (v := x12) (lv' := [(4, .int x12), (0, .ref (q 0)), (1, .int u1), (2, .int j10.1), (3, .int j10.2)]) (q := 99) 4 C dX5_dear_96 rfl (by rw [ex12]; rfl) (by decide) rfl rfl ?_
          refine cv_goto (tgt := 44) C dX5_dear_99 (by decide) ?_
          refine cv_sub [1, 2, 3, 4, 0] rfl ?_
          exact ih j10.1 j10.2 x12 j8.2 hm kx
        · have hm := hj10
          refine cv_icmp_le (tgt := 96) (q := 90) C dX5_dear_87 (by decide) rfl (fun h13 => ?_) (fun h13 => ?_)
          · have hm := cv_if_t h13 hm
            obtain rfl := Option.some.inj hm
            refine cv_sub [1, 2, 3, 4, 5] rfl ?_
            exact K11
          · have hm := cv_if_f h13 hm
            refine cv_iload (i := 4) (q := 92) 5 C dX5_dear_90 rfl rfl ?_
            refine cv_istore_n (i := 2) (lv' := [(2, .int y4), (5, .int j8.1), (0, .ref (q 0)), (1, .int u1), (3, .int y3), (4, .int y4)]) (q := 93) C dX5_dear_92 rfl (by decide) rfl rfl ?_
            refine cv_iload (i := 5) (q := 95) 1 C dX5_dear_93 rfl rfl ?_
            refine cv_istore_n (i := 3) (lv' := [(3, .int j8.1), (2, .int y4), (5, .int j8.1), (0, .ref (q 0)), (1, .int u1), (4, .int y4)]) (q := 96) C dX5_dear_95 rfl (by decide) rfl rfl ?_
            obtain rfl := Option.some.inj hm
            refine cv_sub [3, 4, 1, 0, 5] rfl ?_
            exact K11
      · have hm := hj8
        refine cv_if_eq (tgt := 70) (q := 66) C dX5_dear_63 (by decide) rfl (fun h14 => ?_) (fun h14 => ?_)
        · have hm := cv_if_t h14 hm
          refine cv_aload_n (i := 0) (q := 71) 0 C dX5_dear_70 rfl rfl rfl ?_
          refine cv_get (q := 74) C iX5_dear_X5 0 rfl rfl 1 (by decide) (List.mem_of_getElem? (i := 2) rfl) rfl rfl dX5_dear_71 rfl ?_
          refine cv_get (q := 77) C iX5_dear_X3 3 rfl rfl 0 (by decide) (List.mem_of_getElem? (i := 3) rfl) rfl rfl dX5_dear_74 rfl ?_
          refine cv_iload (i := 4) (q := 79) 4 C dX5_dear_77 rfl rfl ?_
          obtain ⟨r15, hr15, hm⟩ := cv_bd_s hm
          obtain ⟨s16, es16, hm⟩ := cv_lt_s hm
          refine cv_go (q := 82) (ws' := (wX5 q cy s16)) C (KX4_wouldBuild (l := l) (σ := σ) (D := D) (cy := cy)  (cv_sh q 4)  (gX3_tree (gX5_now S)) y4 hr15) (cv_rv (As := [.int y4]) (st := []) (n := 1) (q0 := 4) (ci := 4) C (KX4_wouldBuild (l := l) (σ := σ) (D := D) (cy := cy)  (cv_sh q 4)  (gX3_tree (gX5_now S)) y4 hr15) rfl rfl gX5_dear_X4_wouldBuild rfl ⟨rfl, rfl⟩ (by decide +kernel) rfl ⟨Nat.le_of_ble_eq_true rfl, Nat.le_of_ble_eq_true rfl⟩ rfl (Nat.le_of_ble_eq_true rfl) dX5_dear_79 ⟨Nat.zero_le _, Nat.zero_le _⟩) [4, 5, 6, 7, 8, 9] [0, 1, 2, 3, 10, 11, 12, 13, 14, 15, 16, 17, 18, 19, 20, 21, 22, 23, 24, 25, 26, 27, 28, 29, 30, 31, 32, 33, 34, 35, 36] rfl (wr := cv_pk (wX5 q cy S) [0, 1, 2, 3, 10, 11, 12, 13, 14, 15, 16, 17, 18, 19, 20, 21, 22, 23, 24, 25, 26, 27, 28, 29, 30, 31, 32, 33, 34, 35, 36]) rfl (by decide) (by decide) (by decide) [0, 1, 2, 3, 31, 32, 33, 34, 35, 36, 4, 5, 6, 7, 8, 9, 10, 11, 12, 13, 14, 15, 16, 17, 18, 19, 20, 21, 22, 23, 24, 25, 26, 27, 28, 29, 30] (by decide) (by rw [es16]; rfl) rfl ?_
          obtain rfl := Option.some.inj hm
          exact K9
        · have hm := cv_if_f h14 hm
          refine cv_iconst (v := -1) (q := 67) C dX5_dear_66 (by decide) rfl ?_
          refine cv_goto (tgt := 82) C dX5_dear_67 (by decide) ?_
          obtain rfl := Option.some.inj hm
          exact K9
set_option maxHeartbeats 4000000 in
set_option maxRecDepth 100000 in
theorem KX5_dear {l : Launch} {σ : Nat → Nat} {D : va_G} {cy : ClassId} (q : Nat → Nat) (S : SX5) (a1 : Int32) {res : Int32 × SX5} (hm : fX5_dear S a1 = some res) : cv_M l yX5_dear wsX5_dear rX5_dear σ D [(cy, .int)] [.ref (q 0), .int a1] (wX5 q cy S) (some (.int res.1)) (wX5 q cy res.2) := by
  unfold fX5_dear at hm
  refine cv_M.of (own := RX5) (by decide +kernel) rfl rfl (lv := [(0, .ref (q 0)), (1, .int a1)]) rfl (Nat.le_of_ble_eq_true rfl) ?_
  intro p e s m args below meth c A C hr hk
  refine cv_iload_n (i := 1) (q := 1) 1 C dX5_dear_0 rfl rfl rfl ?_
  refine cv_if_lt (tgt := 9) (q := 4) C dX5_dear_1 (by decide) rfl (fun h1 => ?_) (fun h1 => ?_)
  · have hm := cv_if_t h1 hm
    refine cv_bipush (v := -102) (q := 11) C dX5_dear_9 (by decide) rfl ?_
    obtain rfl := Option.some.inj hm
    exact cv_iret C hr hk dX5_dear_11
  · have hm := cv_if_f h1 hm
    refine cv_iload_n (i := 1) (q := 5) 1 C dX5_dear_4 rfl rfl rfl ?_
    refine cv_iconst (v := 1) (q := 6) C dX5_dear_5 (by decide) rfl ?_
    refine cv_icmp_le (tgt := 12) (q := 9) C dX5_dear_6 (by decide) rfl (fun h2 => ?_) (fun h2 => ?_)
    · have hm := cv_if_t h2 hm
      refine cv_aload_n (i := 0) (q := 13) 0 C dX5_dear_12 rfl rfl rfl ?_
      refine cv_get (q := 16) C iX5_dear_X5 0 rfl rfl 4 (by decide) (List.mem_of_getElem? (i := 1) rfl) rfl rfl dX5_dear_13 rfl ?_
      refine cv_if_ne (tgt := 22) (q := 19) C dX5_dear_16 (by decide) rfl (fun h3 => ?_) (fun h3 => ?_)
      · have hm := cv_if_f h3 hm
        refine cv_aload_n (i := 0) (q := 23) 0 C dX5_dear_22 rfl rfl rfl ?_
        refine cv_get (q := 26) C iX5_dear_X5 0 rfl rfl 1 (by decide) (List.mem_of_getElem? (i := 2) rfl) rfl rfl dX5_dear_23 rfl ?_
        refine cv_get (q := 29) C iX5_dear_X3 3 rfl rfl 0 (by decide) (List.mem_of_getElem? (i := 3) rfl) rfl rfl dX5_dear_26 rfl ?_
        obtain ⟨r4, hr4, hm⟩ := cv_bd_s hm
        refine cv_go (q := 32) (ws' := (wX5 q cy S)) C (KX4_isFull (l := l) (σ := σ) (D := D) (cy := cy)  (cv_sh q 4)  (gX3_tree (gX5_now S))  hr4) (cv_rv (As := []) (st := []) (n := 0) (q0 := 4) (ci := 4) C (KX4_isFull (l := l) (σ := σ) (D := D) (cy := cy)  (cv_sh q 4)  (gX3_tree (gX5_now S))  hr4) rfl rfl gX5_dear_X4_isFull rfl ⟨rfl, rfl⟩ (by decide +kernel) rfl ⟨Nat.le_of_ble_eq_true rfl, Nat.le_of_ble_eq_true rfl⟩ rfl (Nat.le_of_ble_eq_true rfl) dX5_dear_29 ⟨Nat.zero_le _, Nat.zero_le _⟩) [4, 5, 6, 7, 8, 9] [0, 1, 2, 3, 10, 11, 12, 13, 14, 15, 16, 17, 18, 19, 20, 21, 22, 23, 24, 25, 26, 27, 28, 29, 30, 31, 32, 33, 34, 35, 36] rfl (wr := cv_pk (wX5 q cy S) [0, 1, 2, 3, 10, 11, 12, 13, 14, 15, 16, 17, 18, 19, 20, 21, 22, 23, 24, 25, 26, 27, 28, 29, 30, 31, 32, 33, 34, 35, 36]) rfl (by decide) (by decide) (by decide) [0, 1, 2, 3, 31, 32, 33, 34, 35, 36, 4, 5, 6, 7, 8, 9, 10, 11, 12, 13, 14, 15, 16, 17, 18, 19, 20, 21, 22, 23, 24, 25, 26, 27, 28, 29, 30] (by decide) rfl rfl ?_
        refine cv_if_eq (tgt := 37) (q := 35) C dX5_dear_32 (by decide) rfl (fun h5 => ?_) (fun h5 => ?_)
        · have hm := cv_if_t h5 hm
          refine cv_iconst (v := -1) (q := 38) C dX5_dear_37 (by decide) rfl ?_
          refine cv_istore_n (i := 2) (lv' := [(2, .int (-1 : Int32)), (0, .ref (q 0)), (1, .int a1)]) (q := 39) C dX5_dear_38 rfl (by decide) rfl rfl ?_
          refine cv_iconst (v := -1) (q := 40) C dX5_dear_39 (by decide) rfl ?_
          refine cv_istore_n (i := 3) (lv' := [(3, .int (-1 : Int32)), (2, .int (-1 : Int32)), (0, .ref (q 0)), (1, .int a1)]) (q := 41) C dX5_dear_40 rfl (by decide) rfl rfl ?_
          refine cv_iconst (v := 0) (q := 42) C dX5_dear_41 (by decide) rfl ?_
          refine cv_istore (i := 4) (lv' := [(4, .int (0 : Int32)), (3, .int (-1 : Int32)), (2, .int (-1 : Int32)), (0, .ref (q 0)), (1, .int a1)]) (q := 44) C dX5_dear_42 (by decide) rfl rfl ?_
          obtain ⟨j17, hj17, hm⟩ := cv_bd_s hm
          refine cv_cut (ws' := (wX5 q cy j17.2.2)) (pc' := 102) (lv' := [(1, .int a1), (2, .int j17.1), (3, .int j17.2.1)]) (st' := []) ?_ (fun K18 => ?_)
          · refine cv_iload_n (i := 1) (q := 103) 0 C dX5_dear_102 rfl rfl rfl ?_
            refine cv_if_ne (tgt := 110) (q := 106) C dX5_dear_103 (by decide) rfl (fun h19 => ?_) (fun h19 => ?_)
            · have hm := cv_if_f h19 hm
              refine cv_iload_n (i := 3) (q := 111) 2 C dX5_dear_110 rfl rfl rfl ?_
              obtain rfl := Option.some.inj hm
              exact cv_iret C hr hk dX5_dear_111
            · have hm := cv_if_t h19 hm
              refine cv_iload_n (i := 2) (q := 107) 1 C dX5_dear_106 rfl rfl rfl ?_
              refine cv_goto (tgt := 111) C dX5_dear_107 (by decide) ?_
              obtain rfl := Option.some.inj hm
              exact cv_iret C hr hk dX5_dear_111
          · refine cv_sub [3, 4, 2, 1, 0] rfl ?_
            exact vX5_dear_L44 q a1 C 256 (-1 : Int32) (-1 : Int32) (0 : Int32) S hj17 K18
        · have hm := cv_if_f h5 hm
          refine cv_iconst (v := -1) (q := 36) C dX5_dear_35 (by decide) rfl ?_
          obtain rfl := Option.some.inj hm
          exact cv_iret C hr hk dX5_dear_36
      · have hm := cv_if_t h3 hm
        refine cv_bipush (v := -103) (q := 21) C dX5_dear_19 (by decide) rfl ?_
        obtain rfl := Option.some.inj hm
        exact cv_iret C hr hk dX5_dear_21
    · have hm := cv_if_f h2 hm
      refine cv_bipush (v := -102) (q := 11) C dX5_dear_9 (by decide) rfl ?_
      obtain rfl := Option.some.inj hm
      exact cv_iret C hr hk dX5_dear_11
def fX5_replay_L42 (u3 : Int32) : Nat → Int32 → SX5 → Option (SX5)
  | 0, _, _ => none
  | n + 1, y4, S =>
    if (gX0_length (gX3_log (gX5_now S))) ≤ y4 then
      (
      some S
      )
    else
      (
      cv_gd (0 ≤ (y4).toInt ∧ (y4).toInt < 60) <|
      cv_bd (fX4_turn (gX5_trial S) ((gX0_keys (gX3_log (gX5_now S))) (y4).toNatClampNeg)) fun r10 =>
      cv_lt (sX5_trial S r10) fun s11 =>
      cv_lt (y4 + (1 : Int32)) fun x12 =>
      fX5_replay_L42 u3 n x12 s11
      )
def fX5_replay (S : SX5) (a1 : Int32) (a2 : Int32) (a3 : Int32) : Option (Int32 × SX5) :=
  cv_bd (fX5_isRatio a1 a2) fun r1 =>
  if r1 = 0 then
    (
    some ((-102 : Int32), S)
    )
  else
    (
    if a3 < 0 then
      (
      some ((-102 : Int32), S)
      )
    else
      (
      if a3 ≤ (1 : Int32) then
        (
        if (gX5_open S) = 0 then
          (
          some ((-103 : Int32), S)
          )
        else
          (
          cv_bd (fX4_begin (gX5_trial S) a1 a2) fun r6 =>
          cv_lt (sX5_trial S r6) fun s7 =>
          cv_bd (fX5_replay_L42 a3 256 (0 : Int32) s7) fun j13 =>
          if a3 = 0 then
            (
            some ((gX4_cost (gX5_trial j13)), j13)
            )
          else
            (
            cv_bd (fX4_tall (gX5_trial j13)) fun r16 =>
            cv_lt (sX5_trial j13 r16.2) fun s17 =>
            some (r16.1, s17)
            )
          )
        )
      else
        (
        some ((-102 : Int32), S)
        )
      )
    )
abbrev rX5_replay : Room := { frames := 13, cells := 0, slots := 0, locals := 310 }
theorem iX5_replay_X0 : ∀ w ∈ u_ws RX0 TX0 2, w ∈ wsX5_replay := fun w h => List.mem_cons_of_mem _ (List.mem_append_left _ (List.mem_append_right _ h))
theorem iX5_replay_X3 : ∀ w ∈ u_ws RX3 TX3 8, w ∈ wsX5_replay := fun w h => List.mem_cons_of_mem _ (List.mem_append_left _ (List.mem_append_left _ (List.mem_append_right _ h)))
theorem iX5_replay_X4 : ∀ w ∈ u_ws RX4 TX4 12, w ∈ wsX5_replay := fun w h => List.mem_cons_of_mem _ (List.mem_append_right _ h)
theorem iX5_replay_X5 : ∀ w ∈ u_ws RX5 TX5 7, w ∈ wsX5_replay := fun w h => List.mem_cons_of_mem _ (List.mem_append_left _ (List.mem_append_left _ (List.mem_append_left _ (List.mem_append_right _ h))))
set_option maxHeartbeats 4000000 in
set_option maxRecDepth 100000 in
theorem vX5_replay_L42 {p : Program} {l : Launch} {e : Env} {s : State} {m : MethodId} {args : Array Value} {below : List Frame} {meth : Method} {c : Code} {σ : Nat → Nat} {D : va_G} {A : Nat → Prop} {cy : ClassId} (q : Nat → Nat) (u3 : Int32) (C : cv_C p s m args c cX5_replay 5 RX5 wsX5_replay σ D [(cy, .int)] A) {Q : State → Prop} {j : SX5} : ∀ (n : Nat) (y4 : Int32) (S : SX5), fX5_replay_L42 u3 n y4 S = some j → cv_V p l e rX5_replay s m args below meth c 5 D A Q 0 0 (wX5 q cy j) 83 [(0, .ref (q 0)), (3, .int u3)] [] → cv_V p l e rX5_replay s m args below meth c 5 D A Q 0 0 (wX5 q cy S) 42 [(0, .ref (q 0)), (3, .int u3), (4, .int y4)] [] := by
  intro n
  induction n with
  | zero => intro y4 S hm kx; cases hm
  | succ n ih =>
    intro y4 S hm kx
    have hm : fX5_replay_L42 u3 (n + 1) y4 S = some j := hm
    unfold fX5_replay_L42 at hm
    refine cv_iload (i := 4) (q := 44) 2 C dX5_replay_42 rfl rfl ?_
    refine cv_aload_n (i := 0) (q := 45) 0 C dX5_replay_44 rfl rfl rfl ?_
    refine cv_get (q := 48) C iX5_replay_X5 0 rfl rfl 1 (by decide) (List.mem_of_getElem? (i := 3) rfl) rfl rfl dX5_replay_45 rfl ?_
    refine cv_get (q := 51) C iX5_replay_X3 3 rfl rfl 3 (by decide) (List.mem_of_getElem? (i := 4) rfl) rfl rfl dX5_replay_48 rfl ?_
    refine cv_get (q := 54) C iX5_replay_X0 12 rfl rfl 1 (by decide) (List.mem_of_getElem? (i := 5) rfl) rfl rfl dX5_replay_51 rfl ?_
    refine cv_icmp_ge (tgt := 83) (q := 57) C dX5_replay_54 (by decide) rfl (fun h8 => ?_) (fun h8 => ?_)
    · have hm := cv_if_t h8 hm
      obtain rfl := Option.some.inj hm
      refine cv_sub [0, 1] rfl ?_
      exact kx
    · have hm := cv_if_f h8 hm
      refine cv_aload_n (i := 0) (q := 58) 0 C dX5_replay_57 rfl rfl rfl ?_
      refine cv_get (q := 61) C iX5_replay_X5 0 rfl rfl 3 (by decide) (List.mem_of_getElem? (i := 2) rfl) rfl rfl dX5_replay_58 rfl ?_
      refine cv_aload_n (i := 0) (q := 62) 0 C dX5_replay_61 rfl rfl rfl ?_
      refine cv_get (q := 65) C iX5_replay_X5 0 rfl rfl 1 (by decide) (List.mem_of_getElem? (i := 3) rfl) rfl rfl dX5_replay_62 rfl ?_
      refine cv_get (q := 68) C iX5_replay_X3 3 rfl rfl 3 (by decide) (List.mem_of_getElem? (i := 4) rfl) rfl rfl dX5_replay_65 rfl ?_
      refine cv_get (q := 71) C iX5_replay_X0 12 rfl rfl 0 (by decide) (List.mem_of_getElem? (i := 6) rfl) rfl rfl dX5_replay_68 rfl ?_
      refine cv_iload (i := 4) (q := 73) 2 C dX5_replay_71 rfl rfl ?_
      obtain ⟨g9, hm⟩ := cv_gd_s hm
      refine cv_iald (q := 74) C 13 0 rfl rfl (vp_in_iff.mpr g9) dX5_replay_73 rfl ?_
      obtain ⟨r10, hr10, hm⟩ := cv_bd_s hm
      obtain ⟨s11, es11, hm⟩ := cv_lt_s hm
      refine cv_go (q := 77) (ws' := (wX5 q cy s11)) C (KX4_turn (l := l) (σ := σ) (D := D) (cy := cy)  (cv_sh q 31)  (gX5_trial S) ((gX0_keys (gX3_log (gX5_now S))) (y4).toNatClampNeg) hr10) (cv_rv (As := [.int ((gX0_keys (gX3_log (gX5_now S))) (y4).toNatClampNeg)]) (st := []) (n := 1) (q0 := 31) (ci := 4) C (KX4_turn (l := l) (σ := σ) (D := D) (cy := cy)  (cv_sh q 31)  (gX5_trial S) ((gX0_keys (gX3_log (gX5_now S))) (y4).toNatClampNeg) hr10) rfl rfl gX5_replay_X4_turn rfl ⟨rfl, rfl⟩ (by decide +kernel) rfl ⟨Nat.le_of_ble_eq_true rfl, Nat.le_of_ble_eq_true rfl⟩ rfl (Nat.le_of_ble_eq_true rfl) dX5_replay_74 ⟨Nat.zero_le _, Nat.zero_le _⟩) [31, 32, 33, 34, 35, 36] [0, 1, 2, 3, 4, 5, 6, 7, 8, 9, 10, 11, 12, 13, 14, 15, 16, 17, 18, 19, 20, 21, 22, 23, 24, 25, 26, 27, 28, 29, 30] rfl (wr := cv_pk (wX5 q cy S) [0, 1, 2, 3, 4, 5, 6, 7, 8, 9, 10, 11, 12, 13, 14, 15, 16, 17, 18, 19, 20, 21, 22, 23, 24, 25, 26, 27, 28, 29, 30]) rfl (by decide) (by decide) (by decide) [0, 1, 2, 3, 4, 5, 6, 7, 8, 9, 10, 11, 12, 13, 14, 15, 16, 17, 18, 19, 20, 21, 22, 23, 24, 25, 26, 27, 28, 29, 30, 31, 32, 33, 34, 35, 36] (by decide) (by rw [es11]; rfl) rfl ?_
      obtain ⟨x12, ex12, hm⟩ := cv_lt_s hm
      refine cv_iinc (v := x12) (lv' := [(4, .int x12), (0, .ref (q 0)), (3, .int u3)]) (q := 80) 2 C dX5_replay_77 rfl (by rw [ex12]; rfl) (by decide) rfl rfl ?_
      refine cv_goto (tgt := 42) C dX5_replay_80 (by decide) ?_
      refine cv_sub [1, 2, 0] rfl ?_
      exact ih x12 s11 hm kx
set_option maxHeartbeats 4000000 in
set_option maxRecDepth 100000 in
theorem KX5_replay {l : Launch} {σ : Nat → Nat} {D : va_G} {cy : ClassId} (q : Nat → Nat) (S : SX5) (a1 : Int32) (a2 : Int32) (a3 : Int32) {res : Int32 × SX5} (hm : fX5_replay S a1 a2 a3 = some res) : cv_M l yX5_replay wsX5_replay rX5_replay σ D [(cy, .int)] [.ref (q 0), .int a1, .int a2, .int a3] (wX5 q cy S) (some (.int res.1)) (wX5 q cy res.2) := by
  unfold fX5_replay at hm
  refine cv_M.of (own := RX5) (by decide +kernel) rfl rfl (lv := [(0, .ref (q 0)), (1, .int a1), (2, .int a2), (3, .int a3)]) rfl (Nat.le_of_ble_eq_true rfl) ?_
  intro p e s m args below meth c A C hr hk
  refine cv_iload_n (i := 1) (q := 1) 1 C dX5_replay_0 rfl rfl rfl ?_
  refine cv_iload_n (i := 2) (q := 2) 2 C dX5_replay_1 rfl rfl rfl ?_
  obtain ⟨r1, hr1, hm⟩ := cv_bd_s hm
  refine cv_goE (q := 5) C (KX5_isRatio (l := l) (σ := σ) (D := D) (cy := cy)     a1 a2 hr1) (cv_rs (As := [.int a1, .int a2]) (st := []) (n := 2) C (KX5_isRatio (l := l) (σ := σ) (D := D) (cy := cy)     a1 a2 hr1) gX5_replay_X5_isRatio rfl ⟨rfl, rfl⟩ (by decide +kernel) rfl ⟨Nat.le_of_ble_eq_true rfl, Nat.le_of_ble_eq_true rfl⟩ rfl (Nat.le_of_ble_eq_true rfl) dX5_replay_2 ⟨Nat.zero_le _, Nat.zero_le _⟩) rfl ?_
  refine cv_if_eq (tgt := 17) (q := 8) C dX5_replay_5 (by decide) rfl (fun h2 => ?_) (fun h2 => ?_)
  · have hm := cv_if_t h2 hm
    refine cv_bipush (v := -102) (q := 19) C dX5_replay_17 (by decide) rfl ?_
    obtain rfl := Option.some.inj hm
    exact cv_iret C hr hk dX5_replay_19
  · have hm := cv_if_f h2 hm
    refine cv_iload_n (i := 3) (q := 9) 3 C dX5_replay_8 rfl rfl rfl ?_
    refine cv_if_lt (tgt := 17) (q := 12) C dX5_replay_9 (by decide) rfl (fun h3 => ?_) (fun h3 => ?_)
    · have hm := cv_if_t h3 hm
      refine cv_bipush (v := -102) (q := 19) C dX5_replay_17 (by decide) rfl ?_
      obtain rfl := Option.some.inj hm
      exact cv_iret C hr hk dX5_replay_19
    · have hm := cv_if_f h3 hm
      refine cv_iload_n (i := 3) (q := 13) 3 C dX5_replay_12 rfl rfl rfl ?_
      refine cv_iconst (v := 1) (q := 14) C dX5_replay_13 (by decide) rfl ?_
      refine cv_icmp_le (tgt := 20) (q := 17) C dX5_replay_14 (by decide) rfl (fun h4 => ?_) (fun h4 => ?_)
      · have hm := cv_if_t h4 hm
        refine cv_aload_n (i := 0) (q := 21) 0 C dX5_replay_20 rfl rfl rfl ?_
        refine cv_get (q := 24) C iX5_replay_X5 0 rfl rfl 4 (by decide) (List.mem_of_getElem? (i := 1) rfl) rfl rfl dX5_replay_21 rfl ?_
        refine cv_if_ne (tgt := 30) (q := 27) C dX5_replay_24 (by decide) rfl (fun h5 => ?_) (fun h5 => ?_)
        · have hm := cv_if_f h5 hm
          refine cv_aload_n (i := 0) (q := 31) 0 C dX5_replay_30 rfl rfl rfl ?_
          refine cv_get (q := 34) C iX5_replay_X5 0 rfl rfl 3 (by decide) (List.mem_of_getElem? (i := 2) rfl) rfl rfl dX5_replay_31 rfl ?_
          refine cv_iload_n (i := 1) (q := 35) 1 C dX5_replay_34 rfl rfl rfl ?_
          refine cv_iload_n (i := 2) (q := 36) 2 C dX5_replay_35 rfl rfl rfl ?_
          obtain ⟨r6, hr6, hm⟩ := cv_bd_s hm
          obtain ⟨s7, es7, hm⟩ := cv_lt_s hm
          refine cv_go (q := 39) (ws' := (wX5 q cy s7)) C (KX4_begin (l := l) (σ := σ) (D := D) (cy := cy)  (cv_sh q 31)  (gX5_trial S) a1 a2 hr6) (cv_rv (As := [.int a1, .int a2]) (st := []) (n := 2) (q0 := 31) (ci := 4) C (KX4_begin (l := l) (σ := σ) (D := D) (cy := cy)  (cv_sh q 31)  (gX5_trial S) a1 a2 hr6) rfl rfl gX5_replay_X4_begin rfl ⟨rfl, rfl⟩ (by decide +kernel) rfl ⟨Nat.le_of_ble_eq_true rfl, Nat.le_of_ble_eq_true rfl⟩ rfl (Nat.le_of_ble_eq_true rfl) dX5_replay_36 ⟨Nat.zero_le _, Nat.zero_le _⟩) [31, 32, 33, 34, 35, 36] [0, 1, 2, 3, 4, 5, 6, 7, 8, 9, 10, 11, 12, 13, 14, 15, 16, 17, 18, 19, 20, 21, 22, 23, 24, 25, 26, 27, 28, 29, 30] rfl (wr := cv_pk (wX5 q cy S) [0, 1, 2, 3, 4, 5, 6, 7, 8, 9, 10, 11, 12, 13, 14, 15, 16, 17, 18, 19, 20, 21, 22, 23, 24, 25, 26, 27, 28, 29, 30]) rfl (by decide) (by decide) (by decide) [0, 1, 2, 3, 4, 5, 6, 7, 8, 9, 10, 11, 12, 13, 14, 15, 16, 17, 18, 19, 20, 21, 22, 23, 24, 25, 26, 27, 28, 29, 30, 31, 32, 33, 34, 35, 36] (by decide) (by rw [es7]; rfl) rfl ?_
          refine cv_iconst (v := 0) (q := 40) C dX5_replay_39 (by decide) rfl ?_
          refine cv_istore (i := 4) (lv' := [(4, .int (0 : Int32)), (0, .ref (q 0)), (1, .int a1), (2, .int a2), (3, .int a3)]) (q := 42) C dX5_replay_40 (by decide) rfl rfl ?_
          obtain ⟨j13, hj13, hm⟩ := cv_bd_s hm
          refine cv_cut (ws' := (wX5 q cy j13)) (pc' := 83) (lv' := [(0, .ref (q 0)), (3, .int a3)]) (st' := []) ?_ (fun K14 => ?_)
          · refine cv_iload_n (i := 3) (q := 84) 1 C dX5_replay_83 rfl rfl rfl ?_
            refine cv_if_ne (tgt := 97) (q := 87) C dX5_replay_84 (by decide) rfl (fun h15 => ?_) (fun h15 => ?_)
            · have hm := cv_if_f h15 hm
              refine cv_aload_n (i := 0) (q := 98) 0 C dX5_replay_97 rfl rfl rfl ?_
              refine cv_get (q := 101) C iX5_replay_X5 0 rfl rfl 3 (by decide) (List.mem_of_getElem? (i := 2) rfl) rfl rfl dX5_replay_98 rfl ?_
              obtain ⟨r16, hr16, hm⟩ := cv_bd_s hm
              obtain ⟨s17, es17, hm⟩ := cv_lt_s hm
              refine cv_go (q := 104) (ws' := (wX5 q cy s17)) C (KX4_tall (l := l) (σ := σ) (D := D) (cy := cy)  (cv_sh q 31)  (gX5_trial j13)  hr16) (cv_rv (As := []) (st := []) (n := 0) (q0 := 31) (ci := 4) C (KX4_tall (l := l) (σ := σ) (D := D) (cy := cy)  (cv_sh q 31)  (gX5_trial j13)  hr16) rfl rfl gX5_replay_X4_tall rfl ⟨rfl, rfl⟩ (by decide +kernel) rfl ⟨Nat.le_of_ble_eq_true rfl, Nat.le_of_ble_eq_true rfl⟩ rfl (Nat.le_of_ble_eq_true rfl) dX5_replay_101 ⟨Nat.zero_le _, Nat.zero_le _⟩) [31, 32, 33, 34, 35, 36] [0, 1, 2, 3, 4, 5, 6, 7, 8, 9, 10, 11, 12, 13, 14, 15, 16, 17, 18, 19, 20, 21, 22, 23, 24, 25, 26, 27, 28, 29, 30] rfl (wr := cv_pk (wX5 q cy j13) [0, 1, 2, 3, 4, 5, 6, 7, 8, 9, 10, 11, 12, 13, 14, 15, 16, 17, 18, 19, 20, 21, 22, 23, 24, 25, 26, 27, 28, 29, 30]) rfl (by decide) (by decide) (by decide) [0, 1, 2, 3, 4, 5, 6, 7, 8, 9, 10, 11, 12, 13, 14, 15, 16, 17, 18, 19, 20, 21, 22, 23, 24, 25, 26, 27, 28, 29, 30, 31, 32, 33, 34, 35, 36] (by decide) (by rw [es17]; rfl) rfl ?_
              obtain rfl := Option.some.inj hm
              exact cv_iret C hr hk dX5_replay_104
            · have hm := cv_if_t h15 hm
              refine cv_aload_n (i := 0) (q := 88) 0 C dX5_replay_87 rfl rfl rfl ?_
              refine cv_get (q := 91) C iX5_replay_X5 0 rfl rfl 3 (by decide) (List.mem_of_getElem? (i := 2) rfl) rfl rfl dX5_replay_88 rfl ?_
              refine cv_get (q := 94) C iX5_replay_X4 31 rfl rfl 11 (by decide) (List.mem_of_getElem? (i := 7) rfl) rfl rfl dX5_replay_91 rfl ?_
              refine cv_goto (tgt := 104) C dX5_replay_94 (by decide) ?_
              obtain rfl := Option.some.inj hm
              exact cv_iret C hr hk dX5_replay_104
          · refine cv_sub [1, 4, 0] rfl ?_
            exact vX5_replay_L42 q a3 C 256 (0 : Int32) s7 hj13 K14
        · have hm := cv_if_t h5 hm
          refine cv_bipush (v := -103) (q := 29) C dX5_replay_27 (by decide) rfl ?_
          obtain rfl := Option.some.inj hm
          exact cv_iret C hr hk dX5_replay_29
      · have hm := cv_if_f h4 hm
        refine cv_bipush (v := -102) (q := 19) C dX5_replay_17 (by decide) rfl ?_
        obtain rfl := Option.some.inj hm
        exact cv_iret C hr hk dX5_replay_19
def fX5_ahead_L25 (S : SX5) (u1 : Int32) : Nat → Int32 → Option (Int32)
  | 0, _ => none
  | n + 1, y2 =>
    if y2 ≤ 0 then
      (
      some (-1 : Int32)
      )
    else
      (
      cv_bd (fX4_isFew (gX3_tree (gX5_now S)) y2) fun r5 =>
      if r5 = 0 then
        (
        cv_lt (y2 + (-1 : Int32)) fun x7 =>
        fX5_ahead_L25 S u1 n x7
        )
      else
        (
        some (u1 - y2)
        )
      )
def fX5_ahead (S : SX5) : Option (Int32) :=
  if (gX5_open S) = 0 then
    (
    some (-103 : Int32)
    )
  else
    (
    cv_lt ((gX4_number (gX3_tree (gX5_now S)))) fun x2 =>
    cv_lt ((x2 - (1 : Int32))) fun x3 =>
    fX5_ahead_L25 S x2 256 x3
    )
abbrev rX5_ahead : Room := { frames := 1, cells := 0, slots := 0, locals := 21 }
theorem iX5_ahead_X3 : ∀ w ∈ u_ws RX3 TX3 8, w ∈ wsX5_ahead := fun w h => List.mem_cons_of_mem _ (List.mem_append_left _ (List.mem_append_right _ h))
theorem iX5_ahead_X4 : ∀ w ∈ u_ws RX4 TX4 12, w ∈ wsX5_ahead := fun w h => List.mem_cons_of_mem _ (List.mem_append_right _ h)
theorem iX5_ahead_X5 : ∀ w ∈ u_ws RX5 TX5 7, w ∈ wsX5_ahead := fun w h => List.mem_cons_of_mem _ (List.mem_append_left _ (List.mem_append_left _ (List.mem_append_right _ h)))
set_option maxHeartbeats 4000000 in
set_option maxRecDepth 100000 in
theorem vX5_ahead_L25 {p : Program} {l : Launch} {e : Env} {s : State} {m : MethodId} {args : Array Value} {below : List Frame} {meth : Method} {c : Code} {σ : Nat → Nat} {D : va_G} {A : Nat → Prop} {cy : ClassId} (q : Nat → Nat) (S : SX5) (u1 : Int32) (C : cv_C p s m args c cX5_ahead 3 RX5 wsX5_ahead σ D [(cy, .int)] A) (hr : meth.sig.returnType = some .int) (hk : meth.locks = false) {res : Int32} : ∀ (n : Nat) (y2 : Int32), fX5_ahead_L25 S u1 n y2 = some res → cv_V p l e rX5_ahead s m args below meth c 3 D A (cv_Q below (some (.int res)) (wX5 q cy S) D [(cy, .int)] A args s) 0 0 (wX5 q cy S) 25 [(0, .ref (q 0)), (1, .int u1), (2, .int y2)] [] := by
  intro n
  induction n with
  | zero => intro y2 hm; cases hm
  | succ n ih =>
    intro y2 hm
    have hm : fX5_ahead_L25 S u1 (n + 1) y2 = some res := hm
    unfold fX5_ahead_L25 at hm
    refine cv_iload_n (i := 2) (q := 26) 2 C dX5_ahead_25 rfl rfl rfl ?_
    refine cv_if_le (tgt := 53) (q := 29) C dX5_ahead_26 (by decide) rfl (fun h4 => ?_) (fun h4 => ?_)
    · have hm := cv_if_t h4 hm
      refine cv_iconst (v := -1) (q := 54) C dX5_ahead_53 (by decide) rfl ?_
      obtain rfl := Option.some.inj hm
      exact cv_iret C hr hk dX5_ahead_54
    · have hm := cv_if_f h4 hm
      refine cv_aload_n (i := 0) (q := 30) 0 C dX5_ahead_29 rfl rfl rfl ?_
      refine cv_get (q := 33) C iX5_ahead_X5 0 rfl rfl 1 (by decide) (List.mem_of_getElem? (i := 2) rfl) rfl rfl dX5_ahead_30 rfl ?_
      refine cv_get (q := 36) C iX5_ahead_X3 3 rfl rfl 0 (by decide) (List.mem_of_getElem? (i := 3) rfl) rfl rfl dX5_ahead_33 rfl ?_
      refine cv_iload_n (i := 2) (q := 37) 2 C dX5_ahead_36 rfl rfl rfl ?_
      obtain ⟨r5, hr5, hm⟩ := cv_bd_s hm
      refine cv_go (q := 40) (ws' := (wX5 q cy S)) C (KX4_isFew (l := l) (σ := σ) (D := D) (cy := cy)  (cv_sh q 4)  (gX3_tree (gX5_now S)) y2 hr5) (cv_rv (As := [.int y2]) (st := []) (n := 1) (q0 := 4) (ci := 4) C (KX4_isFew (l := l) (σ := σ) (D := D) (cy := cy)  (cv_sh q 4)  (gX3_tree (gX5_now S)) y2 hr5) rfl rfl gX5_ahead_X4_isFew rfl ⟨rfl, rfl⟩ (by decide +kernel) rfl ⟨Nat.le_of_ble_eq_true rfl, Nat.le_of_ble_eq_true rfl⟩ rfl (Nat.le_of_ble_eq_true rfl) dX5_ahead_37 ⟨Nat.zero_le _, Nat.zero_le _⟩) [4, 5, 6, 7, 8, 9] [0, 1, 2, 3, 10, 11, 12, 13, 14, 15, 16, 17, 18, 19, 20, 21, 22, 23, 24, 25, 26, 27, 28, 29, 30, 31, 32, 33, 34, 35, 36] rfl (wr := cv_pk (wX5 q cy S) [0, 1, 2, 3, 10, 11, 12, 13, 14, 15, 16, 17, 18, 19, 20, 21, 22, 23, 24, 25, 26, 27, 28, 29, 30, 31, 32, 33, 34, 35, 36]) rfl (by decide) (by decide) (by decide) [0, 1, 2, 3, 31, 32, 33, 34, 35, 36, 4, 5, 6, 7, 8, 9, 10, 11, 12, 13, 14, 15, 16, 17, 18, 19, 20, 21, 22, 23, 24, 25, 26, 27, 28, 29, 30] (by decide) rfl rfl ?_
      refine cv_if_eq (tgt := 47) (q := 43) C dX5_ahead_40 (by decide) rfl (fun h6 => ?_) (fun h6 => ?_)
      · have hm := cv_if_t h6 hm
        obtain ⟨x7, ex7, hm⟩ := cv_lt_s hm
        refine cv_iinc (v := x7) (lv' := [(2, .int x7), (0, .ref (q 0)), (1, .int u1)]) (q := 50) 2 C dX5_ahead_47 rfl (by rw [ex7]; rfl) (by decide) rfl rfl ?_
        refine cv_goto (tgt := 25) C dX5_ahead_50 (by decide) ?_
        refine cv_sub [1, 2, 0] rfl ?_
        exact ih x7 hm
      · have hm := cv_if_f h6 hm
        refine cv_iload_n (i := 1) (q := 44) 1 C dX5_ahead_43 rfl rfl rfl ?_
        refine cv_iload_n (i := 2) (q := 45) 2 C dX5_ahead_44 rfl rfl rfl ?_
        refine cv_isub (q := 46) C dX5_ahead_45 rfl ?_
        obtain rfl := Option.some.inj hm
        exact cv_iret C hr hk dX5_ahead_46
set_option maxHeartbeats 4000000 in
set_option maxRecDepth 100000 in
theorem KX5_ahead {l : Launch} {σ : Nat → Nat} {D : va_G} {cy : ClassId} (q : Nat → Nat) (S : SX5) {res : Int32} (hm : fX5_ahead S = some res) : cv_M l yX5_ahead wsX5_ahead rX5_ahead σ D [(cy, .int)] [.ref (q 0)] (wX5 q cy S) (some (.int res)) (wX5 q cy S) := by
  unfold fX5_ahead at hm
  refine cv_M.of (own := RX5) (by decide +kernel) rfl rfl (lv := [(0, .ref (q 0))]) rfl (Nat.le_of_ble_eq_true rfl) ?_
  intro p e s m args below meth c A C hr hk
  refine cv_aload_n (i := 0) (q := 1) 0 C dX5_ahead_0 rfl rfl rfl ?_
  refine cv_get (q := 4) C iX5_ahead_X5 0 rfl rfl 4 (by decide) (List.mem_of_getElem? (i := 1) rfl) rfl rfl dX5_ahead_1 rfl ?_
  refine cv_if_ne (tgt := 10) (q := 7) C dX5_ahead_4 (by decide) rfl (fun h1 => ?_) (fun h1 => ?_)
  · have hm := cv_if_f h1 hm
    refine cv_aload_n (i := 0) (q := 11) 0 C dX5_ahead_10 rfl rfl rfl ?_
    refine cv_get (q := 14) C iX5_ahead_X5 0 rfl rfl 1 (by decide) (List.mem_of_getElem? (i := 2) rfl) rfl rfl dX5_ahead_11 rfl ?_
    refine cv_get (q := 17) C iX5_ahead_X3 3 rfl rfl 0 (by decide) (List.mem_of_getElem? (i := 3) rfl) rfl rfl dX5_ahead_14 rfl ?_
    refine cv_get (q := 20) C iX5_ahead_X4 4 rfl rfl 8 (by decide) (List.mem_of_getElem? (i := 4) rfl) rfl rfl dX5_ahead_17 rfl ?_
    obtain ⟨x2, ex2, hm⟩ := cv_lt_s hm
    refine cv_topi ex2 ?_
    refine cv_istore_n (i := 1) (lv' := [(1, .int x2), (0, .ref (q 0))]) (q := 21) C dX5_ahead_20 rfl (by decide) rfl rfl ?_
    refine cv_iload_n (i := 1) (q := 22) 0 C dX5_ahead_21 rfl rfl rfl ?_
    refine cv_iconst (v := 1) (q := 23) C dX5_ahead_22 (by decide) rfl ?_
    refine cv_isub (q := 24) C dX5_ahead_23 rfl ?_
    obtain ⟨x3, ex3, hm⟩ := cv_lt_s hm
    refine cv_topi ex3 ?_
    refine cv_istore_n (i := 2) (lv' := [(2, .int x3), (1, .int x2), (0, .ref (q 0))]) (q := 25) C dX5_ahead_24 rfl (by decide) rfl rfl ?_
    refine cv_sub [2, 1, 0] rfl ?_
    exact vX5_ahead_L25 q S x2 C hr hk 256 x3 hm
  · have hm := cv_if_t h1 hm
    refine cv_bipush (v := -103) (q := 9) C dX5_ahead_7 (by decide) rfl ?_
    obtain rfl := Option.some.inj hm
    exact cv_iret C hr hk dX5_ahead_9
def fX5_see (S : SX5) (a1 : Int32) (a2 : Int32) (a3 : Int32) : Option (Int32 × SX5) :=
  cv_bd (fX5_isNoKey a1) fun r1 =>
  if r1 = 0 then
    (
    if a2 < 0 then
      (
      some ((-102 : Int32), S)
      )
    else
      (
      if a2 < (4 : Int32) then
        (
        if (gX5_open S) = 0 then
          (
          some ((-103 : Int32), S)
          )
        else
          (
          cv_bd (
            if a3 = 0 then
              (
              cv_gd (0 ≤ (a2).toInt ∧ (a2).toInt < 4) <|
              some ((31 : Int32) &&& ((cv_able (a2).toNatClampNeg) ^^^ (-1 : Int32)))
              )
            else
              (
              cv_gd (0 ≤ (a2).toInt ∧ (a2).toInt < 4) <|
              some (cv_able (a2).toNatClampNeg)
              )
          ) fun j6 =>
          cv_bd (fX2_add (gX3_seen (gX5_now S)) a1 j6) fun r8 =>
          cv_lt (sX5_now S (sX3_seen (gX5_now S) r8.2)) fun s9 =>
          if r8.1 = 0 then
            (
            some ((-104 : Int32), s9)
            )
          else
            (
            some ((gX2_length (gX3_seen (gX5_now s9))), s9)
            )
          )
        )
      else
        (
        some ((-102 : Int32), S)
        )
      )
    )
  else
    (
    some ((-102 : Int32), S)
    )
abbrev rX5_see : Room := { frames := 1, cells := 0, slots := 0, locals := 22 }
theorem iX5_see_X2 : ∀ w ∈ u_ws RX2 TX2 3, w ∈ wsX5_see := fun w h => List.mem_cons_of_mem _ (List.mem_append_right _ h)
theorem iX5_see_X3 : ∀ w ∈ u_ws RX3 TX3 8, w ∈ wsX5_see := fun w h => List.mem_cons_of_mem _ (List.mem_append_left _ (List.mem_append_right _ h))
theorem iX5_see_X5 : ∀ w ∈ u_ws RX5 TX5 7, w ∈ wsX5_see := fun w h => List.mem_cons_of_mem _ (List.mem_append_left _ (List.mem_append_left _ (List.mem_append_right _ h)))
set_option maxHeartbeats 4000000 in
set_option maxRecDepth 100000 in
theorem KX5_see {l : Launch} {σ : Nat → Nat} {D : va_G} {cy : ClassId} (q : Nat → Nat) (S : SX5) (a1 : Int32) (a2 : Int32) (a3 : Int32) {res : Int32 × SX5} (hm : fX5_see S a1 a2 a3 = some res) : cv_M l yX5_see wsX5_see rX5_see σ D [(cy, .int)] [.ref (q 0), .int a1, .int a2, .int a3] (wX5 q cy S) (some (.int res.1)) (wX5 q cy res.2) := by
  unfold fX5_see at hm
  refine cv_M.of (own := RX5) (by decide +kernel) rfl rfl (lv := [(0, .ref (q 0)), (1, .int a1), (2, .int a2), (3, .int a3)]) rfl (Nat.le_of_ble_eq_true rfl) ?_
  intro p e s m args below meth c A C hr hk
  refine cv_iload_n (i := 1) (q := 1) 1 C dX5_see_0 rfl rfl rfl ?_
  obtain ⟨r1, hr1, hm⟩ := cv_bd_s hm
  refine cv_goE (q := 4) C (KX5_isNoKey (l := l) (σ := σ) (D := D) (cy := cy)     a1 hr1) (cv_rs (As := [.int a1]) (st := []) (n := 1) C (KX5_isNoKey (l := l) (σ := σ) (D := D) (cy := cy)     a1 hr1) gX5_see_X5_isNoKey rfl ⟨rfl, rfl⟩ (by decide +kernel) rfl ⟨Nat.le_of_ble_eq_true rfl, Nat.le_of_ble_eq_true rfl⟩ rfl (Nat.le_of_ble_eq_true rfl) dX5_see_1 ⟨Nat.zero_le _, Nat.zero_le _⟩) rfl ?_
  refine cv_if_ne (tgt := 19) (q := 7) C dX5_see_4 (by decide) rfl (fun h2 => ?_) (fun h2 => ?_)
  · have hm := cv_if_f h2 hm
    refine cv_bipush (v := -102) (q := 21) C dX5_see_19 (by decide) rfl ?_
    obtain rfl := Option.some.inj hm
    exact cv_iret C hr hk dX5_see_21
  · have hm := cv_if_t h2 hm
    refine cv_iload_n (i := 2) (q := 8) 2 C dX5_see_7 rfl rfl rfl ?_
    refine cv_if_lt (tgt := 19) (q := 11) C dX5_see_8 (by decide) rfl (fun h3 => ?_) (fun h3 => ?_)
    · have hm := cv_if_t h3 hm
      refine cv_bipush (v := -102) (q := 21) C dX5_see_19 (by decide) rfl ?_
      obtain rfl := Option.some.inj hm
      exact cv_iret C hr hk dX5_see_21
    · have hm := cv_if_f h3 hm
      refine cv_iload_n (i := 2) (q := 12) 2 C dX5_see_11 rfl rfl rfl ?_
      refine cv_gets (q := 15) C (List.mem_of_getElem? (i := 1) rfl) dX5_see_12 rfl ?_
      refine cv_tlen (q := 16) C dX5_see_15 rfl ?_
      refine cv_icmp_lt (tgt := 22) (q := 19) C dX5_see_16 (by decide) rfl (fun h4 => ?_) (fun h4 => ?_)
      · have hm := cv_if_t h4 hm
        refine cv_aload_n (i := 0) (q := 23) 0 C dX5_see_22 rfl rfl rfl ?_
        refine cv_get (q := 26) C iX5_see_X5 0 rfl rfl 4 (by decide) (List.mem_of_getElem? (i := 2) rfl) rfl rfl dX5_see_23 rfl ?_
        refine cv_if_ne (tgt := 32) (q := 29) C dX5_see_26 (by decide) rfl (fun h5 => ?_) (fun h5 => ?_)
        · have hm := cv_if_f h5 hm
          refine cv_iload_n (i := 3) (q := 33) 3 C dX5_see_32 rfl rfl rfl ?_
          obtain ⟨j6, hj6, hm⟩ := cv_bd_s hm
          refine cv_cut (ws' := (wX5 q cy S)) (pc' := 54) (lv' := [(0, .ref (q 0)), (1, .int a1)]) (st' := [.int j6]) ?_ (fun K7 => ?_)
          · refine cv_istore (i := 4) (lv' := [(4, .int j6), (0, .ref (q 0)), (1, .int a1)]) (q := 56) C dX5_see_54 (by decide) rfl rfl ?_
            refine cv_aload_n (i := 0) (q := 57) 1 C dX5_see_56 rfl rfl rfl ?_
            refine cv_get (q := 60) C iX5_see_X5 0 rfl rfl 1 (by decide) (List.mem_of_getElem? (i := 3) rfl) rfl rfl dX5_see_57 rfl ?_
            refine cv_get (q := 63) C iX5_see_X3 3 rfl rfl 4 (by decide) (List.mem_of_getElem? (i := 4) rfl) rfl rfl dX5_see_60 rfl ?_
            refine cv_iload_n (i := 1) (q := 64) 2 C dX5_see_63 rfl rfl rfl ?_
            refine cv_iload (i := 4) (q := 66) 0 C dX5_see_64 rfl rfl ?_
            obtain ⟨r8, hr8, hm⟩ := cv_bd_s hm
            obtain ⟨s9, es9, hm⟩ := cv_lt_s hm
            refine cv_go (q := 69) (ws' := (wX5 q cy s9)) C (KX2_add (l := l) (σ := σ) (D := D) (cy := cy)  (cv_sh q 14)  (gX3_seen (gX5_now S)) a1 j6 hr8) (cv_rv (As := [.int a1, .int j6]) (st := []) (n := 2) (q0 := 14) (ci := 2) C (KX2_add (l := l) (σ := σ) (D := D) (cy := cy)  (cv_sh q 14)  (gX3_seen (gX5_now S)) a1 j6 hr8) rfl rfl gX5_see_X2_add rfl ⟨rfl, rfl⟩ (by decide +kernel) rfl ⟨Nat.le_of_ble_eq_true rfl, Nat.le_of_ble_eq_true rfl⟩ rfl (Nat.le_of_ble_eq_true rfl) dX5_see_66 ⟨Nat.zero_le _, Nat.zero_le _⟩) [14, 15, 16] [0, 1, 2, 3, 4, 5, 6, 7, 8, 9, 10, 11, 12, 13, 17, 18, 19, 20, 21, 22, 23, 24, 25, 26, 27, 28, 29, 30, 31, 32, 33, 34, 35, 36] rfl (wr := cv_pk (wX5 q cy S) [0, 1, 2, 3, 4, 5, 6, 7, 8, 9, 10, 11, 12, 13, 17, 18, 19, 20, 21, 22, 23, 24, 25, 26, 27, 28, 29, 30, 31, 32, 33, 34, 35, 36]) rfl (by decide) (by decide) (by decide) [0, 1, 2, 3, 4, 5, 6, 7, 8, 9, 10, 11, 12, 13, 34, 35, 36, 14, 15, 16, 17, 18, 19, 20, 21, 22, 23, 24, 25, 26, 27, 28, 29, 30, 31, 32, 33] (by decide) (by rw [es9]; rfl) rfl ?_
            refine cv_if_eq (tgt := 85) (q := 72) C dX5_see_69 (by decide) rfl (fun h10 => ?_) (fun h10 => ?_)
            · have hm := cv_if_t h10 hm
              refine cv_bipush (v := -104) (q := 87) C dX5_see_85 (by decide) rfl ?_
              obtain rfl := Option.some.inj hm
              exact cv_iret C hr hk dX5_see_87
            · have hm := cv_if_f h10 hm
              refine cv_aload_n (i := 0) (q := 73) 1 C dX5_see_72 rfl rfl rfl ?_
              refine cv_get (q := 76) C iX5_see_X5 0 rfl rfl 1 (by decide) (List.mem_of_getElem? (i := 3) rfl) rfl rfl dX5_see_73 rfl ?_
              refine cv_get (q := 79) C iX5_see_X3 3 rfl rfl 4 (by decide) (List.mem_of_getElem? (i := 4) rfl) rfl rfl dX5_see_76 rfl ?_
              refine cv_get (q := 82) C iX5_see_X2 14 rfl rfl 2 (by decide) (List.mem_of_getElem? (i := 5) rfl) rfl rfl dX5_see_79 rfl ?_
              refine cv_goto (tgt := 87) C dX5_see_82 (by decide) ?_
              obtain rfl := Option.some.inj hm
              exact cv_iret C hr hk dX5_see_87
          · have hm := hj6
            refine cv_if_eq (tgt := 44) (q := 36) C dX5_see_33 (by decide) rfl (fun h11 => ?_) (fun h11 => ?_)
            · have hm := cv_if_t h11 hm
              refine cv_bipush (v := 31) (q := 46) C dX5_see_44 (by decide) rfl ?_
              refine cv_gets (q := 49) C (List.mem_of_getElem? (i := 1) rfl) dX5_see_46 rfl ?_
              refine cv_iload_n (i := 2) (q := 50) 2 C dX5_see_49 rfl rfl rfl ?_
              obtain ⟨g12, hm⟩ := cv_gd_s hm
              refine cv_tald (q := 51) C (vp_in_iff.mpr g12) dX5_see_50 rfl ?_
              refine cv_iconst (v := -1) (q := 52) C dX5_see_51 (by decide) rfl ?_
              refine cv_ixor (q := 53) C dX5_see_52 rfl ?_
              refine cv_iand (q := 54) C dX5_see_53 rfl ?_
              obtain rfl := Option.some.inj hm
              refine cv_sub [0, 1] rfl ?_
              exact K7
            · have hm := cv_if_f h11 hm
              refine cv_gets (q := 39) C (List.mem_of_getElem? (i := 1) rfl) dX5_see_36 rfl ?_
              refine cv_iload_n (i := 2) (q := 40) 2 C dX5_see_39 rfl rfl rfl ?_
              obtain ⟨g13, hm⟩ := cv_gd_s hm
              refine cv_tald (q := 41) C (vp_in_iff.mpr g13) dX5_see_40 rfl ?_
              refine cv_goto (tgt := 54) C dX5_see_41 (by decide) ?_
              obtain rfl := Option.some.inj hm
              refine cv_sub [0, 1] rfl ?_
              exact K7
        · have hm := cv_if_t h5 hm
          refine cv_bipush (v := -103) (q := 31) C dX5_see_29 (by decide) rfl ?_
          obtain rfl := Option.some.inj hm
          exact cv_iret C hr hk dX5_see_31
      · have hm := cv_if_f h4 hm
        refine cv_bipush (v := -102) (q := 21) C dX5_see_19 (by decide) rfl ?_
        obtain rfl := Option.some.inj hm
        exact cv_iret C hr hk dX5_see_21
def fX5_forget (S : SX5) : Option (Int32 × SX5) :=
  cv_lt ((gX2_length (gX3_seen (gX5_now S)))) fun x1 =>
  cv_lt (sX5_now S (sX3_seen (gX5_now S) (sX2_length (gX3_seen (gX5_now S)) (0 : Int32)))) fun s2 =>
  some (x1, s2)
abbrev rX5_forget : Room := { frames := 0, cells := 0, slots := 0, locals := 0 }
theorem iX5_forget_X2 : ∀ w ∈ u_ws RX2 TX2 3, w ∈ wsX5_forget := fun w h => List.mem_cons_of_mem _ (List.mem_append_right _ h)
theorem iX5_forget_X3 : ∀ w ∈ u_ws RX3 TX3 8, w ∈ wsX5_forget := fun w h => List.mem_cons_of_mem _ (List.mem_append_left _ (List.mem_append_right _ h))
theorem iX5_forget_X5 : ∀ w ∈ u_ws RX5 TX5 7, w ∈ wsX5_forget := fun w h => List.mem_cons_of_mem _ (List.mem_append_left _ (List.mem_append_left _ (List.mem_append_right _ h)))
set_option maxHeartbeats 4000000 in
set_option maxRecDepth 100000 in
theorem KX5_forget {l : Launch} {σ : Nat → Nat} {D : va_G} {cy : ClassId} (q : Nat → Nat) (S : SX5) {res : Int32 × SX5} (hm : fX5_forget S = some res) : cv_M l yX5_forget wsX5_forget rX5_forget σ D [(cy, .int)] [.ref (q 0)] (wX5 q cy S) (some (.int res.1)) (wX5 q cy res.2) := by
  unfold fX5_forget at hm
  refine cv_M.of (own := RX5) (by decide +kernel) rfl rfl (lv := [(0, .ref (q 0))]) rfl (Nat.le_of_ble_eq_true rfl) ?_
  intro p e s m args below meth c A C hr hk
  refine cv_aload_n (i := 0) (q := 1) 0 C dX5_forget_0 rfl rfl rfl ?_
  refine cv_get (q := 4) C iX5_forget_X5 0 rfl rfl 1 (by decide) (List.mem_of_getElem? (i := 1) rfl) rfl rfl dX5_forget_1 rfl ?_
  refine cv_get (q := 7) C iX5_forget_X3 3 rfl rfl 4 (by decide) (List.mem_of_getElem? (i := 2) rfl) rfl rfl dX5_forget_4 rfl ?_
  refine cv_get (q := 10) C iX5_forget_X2 14 rfl rfl 2 (by decide) (List.mem_of_getElem? (i := 3) rfl) rfl rfl dX5_forget_7 rfl ?_
  obtain ⟨x1, ex1, hm⟩ := cv_lt_s hm
  refine cv_topi ex1 ?_
  refine cv_istore_n (i := 1) (lv' := [(1, .int x1), (0, .ref (q 0))]) (q := 11) C dX5_forget_10 rfl (by decide) rfl rfl ?_
  refine cv_aload_n (i := 0) (q := 12) 1 C dX5_forget_11 rfl rfl rfl ?_
  refine cv_get (q := 15) C iX5_forget_X5 0 rfl rfl 1 (by decide) (List.mem_of_getElem? (i := 1) rfl) rfl rfl dX5_forget_12 rfl ?_
  refine cv_get (q := 18) C iX5_forget_X3 3 rfl rfl 4 (by decide) (List.mem_of_getElem? (i := 2) rfl) rfl rfl dX5_forget_15 rfl ?_
  refine cv_iconst (v := 0) (q := 19) C dX5_forget_18 (by decide) rfl ?_
  obtain ⟨s2, es2, hm⟩ := cv_lt_s hm
  refine cv_put (q := 22) (ws' := (wX5 q cy s2)) C iX5_forget_X2 tyX2 tyX2_ok nmX2 14 rfl rfl 2 (by decide) (List.mem_of_getElem? (i := 3) rfl) rfl rfl rfl rfl rfl (Nat.le_of_ble_eq_true rfl) dX5_forget_19 rfl (by rw [es2]; rfl) ?_
  refine cv_iload_n (i := 1) (q := 23) 0 C dX5_forget_22 rfl rfl rfl ?_
  obtain rfl := Option.some.inj hm
  exact cv_iret C hr hk dX5_forget_23
def fX5_bestAsk_L13 (u0 : Int32) : Nat → Int32 → Int32 → Int32 → Option (Int32)
  | 0, _, _, _ => none
  | n + 1, y1, y2, y3 =>
    if (4 : Int32) ≤ y3 then
      (
      some y1
      )
    else
      (
      cv_gd (0 ≤ (y3).toInt ∧ (y3).toInt < 4) <|
      cv_bd (fJ6_bitCount_0f7a4 (u0 &&& (cv_able (y3).toNatClampNeg))) fun r4 =>
      cv_gd (0 ≤ (y3).toInt ∧ (y3).toInt < 4) <|
      cv_bd (fJ6_bitCount_0f7a4 (u0 &&& ((cv_able (y3).toNatClampNeg) ^^^ (-1 : Int32)))) fun r6 =>
      cv_lt ((cv_max r4 r6)) fun x7 =>
      cv_bd (
        if y2 ≤ x7 then
          (
          some (y1, y2)
          )
        else
          (
          some (y3, x7)
          )
      ) fun j8 =>
      cv_lt (y3 + (1 : Int32)) fun x10 =>
      fX5_bestAsk_L13 u0 n j8.1 j8.2 x10
      )
def fX5_bestAsk (a0 : Int32) : Option (Int32) :=
  if a0 = 0 then
    (
    some (-1 : Int32)
    )
  else
    (
    cv_bd (fX5_bestAsk_L13 a0 256 (-1 : Int32) (6 : Int32) (0 : Int32)) fun j12 =>
    some j12
    )
abbrev rX5_bestAsk : Room := { frames := 1, cells := 0, slots := 0, locals := 21 }
set_option maxHeartbeats 4000000 in
set_option maxRecDepth 100000 in
theorem vX5_bestAsk_L13 {p : Program} {l : Launch} {e : Env} {s : State} {m : MethodId} {args : Array Value} {below : List Frame} {meth : Method} {c : Code} {σ : Nat → Nat} {D : va_G} {A : Nat → Prop} {cy : ClassId} (u0 : Int32) (C : cv_C p s m args c cX5_bestAsk 5 RX5 wsX5_bestAsk σ D [(cy, .int)] A) {Q : State → Prop} {j : Int32} : ∀ (n : Nat) (y1 : Int32) (y2 : Int32) (y3 : Int32), fX5_bestAsk_L13 u0 n y1 y2 y3 = some j → cv_V p l e rX5_bestAsk s m args below meth c 5 D A Q 0 0 [] 65 [(1, .int j)] [] → cv_V p l e rX5_bestAsk s m args below meth c 5 D A Q 0 0 [] 13 [(0, .int u0), (1, .int y1), (2, .int y2), (3, .int y3)] [] := by
  intro n
  induction n with
  | zero => intro y1 y2 y3 hm kx; cases hm
  | succ n ih =>
    intro y1 y2 y3 hm kx
    have hm : fX5_bestAsk_L13 u0 (n + 1) y1 y2 y3 = some j := hm
    unfold fX5_bestAsk_L13 at hm
    refine cv_iload_n (i := 3) (q := 14) 3 C dX5_bestAsk_13 rfl rfl rfl ?_
    refine cv_gets (q := 17) C (List.mem_of_getElem? (i := 1) rfl) dX5_bestAsk_14 rfl ?_
    refine cv_tlen (q := 18) C dX5_bestAsk_17 rfl ?_
    refine cv_icmp_ge (tgt := 65) (q := 21) C dX5_bestAsk_18 (by decide) rfl (fun h2 => ?_) (fun h2 => ?_)
    · have hm := cv_if_t h2 hm
      obtain rfl := Option.some.inj hm
      refine cv_sub [1] rfl ?_
      exact kx
    · have hm := cv_if_f h2 hm
      refine cv_iload_n (i := 0) (q := 22) 0 C dX5_bestAsk_21 rfl rfl rfl ?_
      refine cv_gets (q := 25) C (List.mem_of_getElem? (i := 1) rfl) dX5_bestAsk_22 rfl ?_
      refine cv_iload_n (i := 3) (q := 26) 3 C dX5_bestAsk_25 rfl rfl rfl ?_
      obtain ⟨g3, hm⟩ := cv_gd_s hm
      refine cv_tald (q := 27) C (vp_in_iff.mpr g3) dX5_bestAsk_26 rfl ?_
      refine cv_iand (q := 28) C dX5_bestAsk_27 rfl ?_
      obtain ⟨r4, hr4, hm⟩ := cv_bd_s hm
      refine cv_goE (q := 31) C (KJ6_bitCount_0f7a4 (l := l) (σ := σ) (D := D) (cy := cy)     (u0 &&& (cv_able (y3).toNatClampNeg)) hr4) (cv_rs (As := [.int (u0 &&& (cv_able (y3).toNatClampNeg))]) (st := []) (n := 1) C (KJ6_bitCount_0f7a4 (l := l) (σ := σ) (D := D) (cy := cy)     (u0 &&& (cv_able (y3).toNatClampNeg)) hr4) gX5_bestAsk_J6_bitCount_0f7a4 rfl ⟨rfl, rfl⟩ (by decide +kernel) rfl ⟨Nat.le_of_ble_eq_true rfl, Nat.le_of_ble_eq_true rfl⟩ rfl (Nat.le_of_ble_eq_true rfl) dX5_bestAsk_28 ⟨Nat.zero_le _, Nat.zero_le _⟩) rfl ?_
      refine cv_iload_n (i := 0) (q := 32) 0 C dX5_bestAsk_31 rfl rfl rfl ?_
      refine cv_gets (q := 35) C (List.mem_of_getElem? (i := 1) rfl) dX5_bestAsk_32 rfl ?_
      refine cv_iload_n (i := 3) (q := 36) 3 C dX5_bestAsk_35 rfl rfl rfl ?_
      obtain ⟨g5, hm⟩ := cv_gd_s hm
      refine cv_tald (q := 37) C (vp_in_iff.mpr g5) dX5_bestAsk_36 rfl ?_
      refine cv_iconst (v := -1) (q := 38) C dX5_bestAsk_37 (by decide) rfl ?_
      refine cv_ixor (q := 39) C dX5_bestAsk_38 rfl ?_
      refine cv_iand (q := 40) C dX5_bestAsk_39 rfl ?_
      obtain ⟨r6, hr6, hm⟩ := cv_bd_s hm
      refine cv_goE (q := 43) C (KJ6_bitCount_0f7a4 (l := l) (σ := σ) (D := D) (cy := cy)     (u0 &&& ((cv_able (y3).toNatClampNeg) ^^^ (-1 : Int32))) hr6) (cv_rs (As := [.int (u0 &&& ((cv_able (y3).toNatClampNeg) ^^^ (-1 : Int32)))]) (st := [.int r4]) (n := 1) C (KJ6_bitCount_0f7a4 (l := l) (σ := σ) (D := D) (cy := cy)     (u0 &&& ((cv_able (y3).toNatClampNeg) ^^^ (-1 : Int32))) hr6) gX5_bestAsk_J6_bitCount_0f7a4 rfl ⟨rfl, rfl⟩ (by decide +kernel) rfl ⟨Nat.le_of_ble_eq_true rfl, Nat.le_of_ble_eq_true rfl⟩ rfl (Nat.le_of_ble_eq_true rfl) dX5_bestAsk_40 ⟨Nat.zero_le _, Nat.zero_le _⟩) rfl ?_
      refine cv_mmax (q := 46) C (List.mem_of_getElem? (i := 2) rfl) (List.mem_of_getElem? (i := 3) rfl) (List.mem_of_getElem? (i := 4) rfl) (List.mem_of_getElem? (i := 5) rfl) (Nat.le_of_ble_eq_true rfl) (Nat.le_of_ble_eq_true rfl) dX5_bestAsk_43 rfl (Nat.zero_le _) (Nat.zero_le _) ?_
      obtain ⟨x7, ex7, hm⟩ := cv_lt_s hm
      refine cv_topi ex7 ?_
      refine cv_istore (i := 4) (lv' := [(4, .int x7), (0, .int u0), (1, .int y1), (2, .int y2), (3, .int y3)]) (q := 48) C dX5_bestAsk_46 (by decide) rfl rfl ?_
      refine cv_iload (i := 4) (q := 50) 0 C dX5_bestAsk_48 rfl rfl ?_
      refine cv_iload_n (i := 2) (q := 51) 3 C dX5_bestAsk_50 rfl rfl rfl ?_
      obtain ⟨j8, hj8, hm⟩ := cv_bd_s hm
      refine cv_cut (ws' := []) (pc' := 59) (lv' := [(0, .int u0), (1, .int j8.1), (2, .int j8.2), (3, .int y3)]) (st' := []) ?_ (fun K9 => ?_)
      · obtain ⟨x10, ex10, hm⟩ := cv_lt_s hm
        refine cv_iinc (v := x10) (lv' := [(3, .int x10), (0, .int u0), (1, .int j8.1), (2, .int j8.2)]) (q := 62) 3 C dX5_bestAsk_59 rfl (by rw [ex10]; rfl) (by decide) rfl rfl ?_
        refine cv_goto (tgt := 13) C dX5_bestAsk_62 (by decide) ?_
        refine cv_sub [1, 2, 3, 0] rfl ?_
        exact ih j8.1 j8.2 x10 hm kx
      · have hm := hj8
        refine cv_icmp_ge (tgt := 59) (q := 54) C dX5_bestAsk_51 (by decide) rfl (fun h11 => ?_) (fun h11 => ?_)
        · have hm := cv_if_t h11 hm
          obtain rfl := Option.some.inj hm
          refine cv_sub [1, 2, 3, 4] rfl ?_
          exact K9
        · have hm := cv_if_f h11 hm
          refine cv_iload_n (i := 3) (q := 55) 4 C dX5_bestAsk_54 rfl rfl rfl ?_
          refine cv_istore_n (i := 1) (lv' := [(1, .int y3), (4, .int x7), (0, .int u0), (2, .int y2), (3, .int y3)]) (q := 56) C dX5_bestAsk_55 rfl (by decide) rfl rfl ?_
          refine cv_iload (i := 4) (q := 58) 1 C dX5_bestAsk_56 rfl rfl ?_
          refine cv_istore_n (i := 2) (lv' := [(2, .int x7), (1, .int y3), (4, .int x7), (0, .int u0), (3, .int y3)]) (q := 59) C dX5_bestAsk_58 rfl (by decide) rfl rfl ?_
          obtain rfl := Option.some.inj hm
          refine cv_sub [3, 1, 0, 4] rfl ?_
          exact K9
set_option maxHeartbeats 4000000 in
set_option maxRecDepth 100000 in
theorem KX5_bestAsk {l : Launch} {σ : Nat → Nat} {D : va_G} {cy : ClassId} (a0 : Int32) {res : Int32} (hm : fX5_bestAsk a0 = some res) : cv_M l yX5_bestAsk wsX5_bestAsk rX5_bestAsk σ D [(cy, .int)] [.int a0] [] (some (.int res)) [] := by
  unfold fX5_bestAsk at hm
  refine cv_M.of (own := RX5) (by decide +kernel) rfl rfl (lv := [(0, .int a0)]) rfl (Nat.le_of_ble_eq_true rfl) ?_
  intro p e s m args below meth c A C hr hk
  refine cv_iload_n (i := 0) (q := 1) 0 C dX5_bestAsk_0 rfl rfl rfl ?_
  refine cv_if_ne (tgt := 6) (q := 4) C dX5_bestAsk_1 (by decide) rfl (fun h1 => ?_) (fun h1 => ?_)
  · have hm := cv_if_f h1 hm
    refine cv_iconst (v := -1) (q := 7) C dX5_bestAsk_6 (by decide) rfl ?_
    refine cv_istore_n (i := 1) (lv' := [(1, .int (-1 : Int32)), (0, .int a0)]) (q := 8) C dX5_bestAsk_7 rfl (by decide) rfl rfl ?_
    refine cv_bipush (v := 6) (q := 10) C dX5_bestAsk_8 (by decide) rfl ?_
    refine cv_istore_n (i := 2) (lv' := [(2, .int (6 : Int32)), (1, .int (-1 : Int32)), (0, .int a0)]) (q := 11) C dX5_bestAsk_10 rfl (by decide) rfl rfl ?_
    refine cv_iconst (v := 0) (q := 12) C dX5_bestAsk_11 (by decide) rfl ?_
    refine cv_istore_n (i := 3) (lv' := [(3, .int (0 : Int32)), (2, .int (6 : Int32)), (1, .int (-1 : Int32)), (0, .int a0)]) (q := 13) C dX5_bestAsk_12 rfl (by decide) rfl rfl ?_
    obtain ⟨j12, hj12, hm⟩ := cv_bd_s hm
    refine cv_cut (ws' := []) (pc' := 65) (lv' := [(1, .int j12)]) (st' := []) ?_ (fun K13 => ?_)
    · refine cv_iload_n (i := 1) (q := 66) 0 C dX5_bestAsk_65 rfl rfl rfl ?_
      obtain rfl := Option.some.inj hm
      exact cv_iret C hr hk dX5_bestAsk_66
    · refine cv_sub [3, 2, 1, 0] rfl ?_
      exact vX5_bestAsk_L13  a0 C 256 (-1 : Int32) (6 : Int32) (0 : Int32) hj12 K13
  · have hm := cv_if_t h1 hm
    refine cv_iconst (v := -1) (q := 5) C dX5_bestAsk_4 (by decide) rfl ?_
    obtain rfl := Option.some.inj hm
    exact cv_iret C hr hk dX5_bestAsk_5
def fX5_sorts (S : SX5) (a1 : Int32) (a2 : Int32) : Option (Int32) :=
  cv_bd (fX5_isNoKey a1) fun r1 =>
  if r1 = 0 then
    (
    if a2 < 0 then
      (
      some (-102 : Int32)
      )
    else
      (
      if a2 ≤ (1 : Int32) then
        (
        cv_bd (fX2_sortsOf (gX3_seen (gX5_now S)) a1) fun r5 =>
        if a2 = 0 then
          (
          some r5
          )
        else
          (
          cv_bd (fX5_bestAsk r5) fun r7 =>
          some r7
          )
        )
      else
        (
        some (-102 : Int32)
        )
      )
    )
  else
    (
    some (-102 : Int32)
    )
abbrev rX5_sorts : Room := { frames := 2, cells := 0, slots := 0, locals := 45 }
theorem iX5_sorts_X3 : ∀ w ∈ u_ws RX3 TX3 8, w ∈ wsX5_sorts := fun w h => List.mem_cons_of_mem _ (List.mem_append_left _ (List.mem_append_right _ h))
theorem iX5_sorts_X5 : ∀ w ∈ u_ws RX5 TX5 7, w ∈ wsX5_sorts := fun w h => List.mem_cons_of_mem _ (List.mem_append_left _ (List.mem_append_left _ (List.mem_append_right _ h)))
set_option maxHeartbeats 4000000 in
set_option maxRecDepth 100000 in
theorem KX5_sorts {l : Launch} {σ : Nat → Nat} {D : va_G} {cy : ClassId} (q : Nat → Nat) (S : SX5) (a1 : Int32) (a2 : Int32) {res : Int32} (hm : fX5_sorts S a1 a2 = some res) : cv_M l yX5_sorts wsX5_sorts rX5_sorts σ D [(cy, .int)] [.ref (q 0), .int a1, .int a2] (wX5 q cy S) (some (.int res)) (wX5 q cy S) := by
  unfold fX5_sorts at hm
  refine cv_M.of (own := RX5) (by decide +kernel) rfl rfl (lv := [(0, .ref (q 0)), (1, .int a1), (2, .int a2)]) rfl (Nat.le_of_ble_eq_true rfl) ?_
  intro p e s m args below meth c A C hr hk
  refine cv_iload_n (i := 1) (q := 1) 1 C dX5_sorts_0 rfl rfl rfl ?_
  obtain ⟨r1, hr1, hm⟩ := cv_bd_s hm
  refine cv_goE (q := 4) C (KX5_isNoKey (l := l) (σ := σ) (D := D) (cy := cy)     a1 hr1) (cv_rs (As := [.int a1]) (st := []) (n := 1) C (KX5_isNoKey (l := l) (σ := σ) (D := D) (cy := cy)     a1 hr1) gX5_sorts_X5_isNoKey rfl ⟨rfl, rfl⟩ (by decide +kernel) rfl ⟨Nat.le_of_ble_eq_true rfl, Nat.le_of_ble_eq_true rfl⟩ rfl (Nat.le_of_ble_eq_true rfl) dX5_sorts_1 ⟨Nat.zero_le _, Nat.zero_le _⟩) rfl ?_
  refine cv_if_ne (tgt := 16) (q := 7) C dX5_sorts_4 (by decide) rfl (fun h2 => ?_) (fun h2 => ?_)
  · have hm := cv_if_f h2 hm
    refine cv_bipush (v := -102) (q := 18) C dX5_sorts_16 (by decide) rfl ?_
    obtain rfl := Option.some.inj hm
    exact cv_iret C hr hk dX5_sorts_18
  · have hm := cv_if_t h2 hm
    refine cv_iload_n (i := 2) (q := 8) 2 C dX5_sorts_7 rfl rfl rfl ?_
    refine cv_if_lt (tgt := 16) (q := 11) C dX5_sorts_8 (by decide) rfl (fun h3 => ?_) (fun h3 => ?_)
    · have hm := cv_if_t h3 hm
      refine cv_bipush (v := -102) (q := 18) C dX5_sorts_16 (by decide) rfl ?_
      obtain rfl := Option.some.inj hm
      exact cv_iret C hr hk dX5_sorts_18
    · have hm := cv_if_f h3 hm
      refine cv_iload_n (i := 2) (q := 12) 2 C dX5_sorts_11 rfl rfl rfl ?_
      refine cv_iconst (v := 1) (q := 13) C dX5_sorts_12 (by decide) rfl ?_
      refine cv_icmp_le (tgt := 19) (q := 16) C dX5_sorts_13 (by decide) rfl (fun h4 => ?_) (fun h4 => ?_)
      · have hm := cv_if_t h4 hm
        refine cv_aload_n (i := 0) (q := 20) 0 C dX5_sorts_19 rfl rfl rfl ?_
        refine cv_get (q := 23) C iX5_sorts_X5 0 rfl rfl 1 (by decide) (List.mem_of_getElem? (i := 1) rfl) rfl rfl dX5_sorts_20 rfl ?_
        refine cv_get (q := 26) C iX5_sorts_X3 3 rfl rfl 4 (by decide) (List.mem_of_getElem? (i := 2) rfl) rfl rfl dX5_sorts_23 rfl ?_
        refine cv_iload_n (i := 1) (q := 27) 1 C dX5_sorts_26 rfl rfl rfl ?_
        obtain ⟨r5, hr5, hm⟩ := cv_bd_s hm
        refine cv_go (q := 30) (ws' := (wX5 q cy S)) C (KX2_sortsOf (l := l) (σ := σ) (D := D) (cy := cy)  (cv_sh q 14)  (gX3_seen (gX5_now S)) a1 hr5) (cv_rv (As := [.int a1]) (st := []) (n := 1) (q0 := 14) (ci := 2) C (KX2_sortsOf (l := l) (σ := σ) (D := D) (cy := cy)  (cv_sh q 14)  (gX3_seen (gX5_now S)) a1 hr5) rfl rfl gX5_sorts_X2_sortsOf rfl ⟨rfl, rfl⟩ (by decide +kernel) rfl ⟨Nat.le_of_ble_eq_true rfl, Nat.le_of_ble_eq_true rfl⟩ rfl (Nat.le_of_ble_eq_true rfl) dX5_sorts_27 ⟨Nat.zero_le _, Nat.zero_le _⟩) [14, 15, 16] [0, 1, 2, 3, 4, 5, 6, 7, 8, 9, 10, 11, 12, 13, 17, 18, 19, 20, 21, 22, 23, 24, 25, 26, 27, 28, 29, 30, 31, 32, 33, 34, 35, 36] rfl (wr := cv_pk (wX5 q cy S) [0, 1, 2, 3, 4, 5, 6, 7, 8, 9, 10, 11, 12, 13, 17, 18, 19, 20, 21, 22, 23, 24, 25, 26, 27, 28, 29, 30, 31, 32, 33, 34, 35, 36]) rfl (by decide) (by decide) (by decide) [0, 1, 2, 3, 4, 5, 6, 7, 8, 9, 10, 11, 12, 13, 34, 35, 36, 14, 15, 16, 17, 18, 19, 20, 21, 22, 23, 24, 25, 26, 27, 28, 29, 30, 31, 32, 33] (by decide) rfl rfl ?_
        refine cv_istore_n (i := 3) (lv' := [(3, .int r5), (0, .ref (q 0)), (1, .int a1), (2, .int a2)]) (q := 31) C dX5_sorts_30 rfl (by decide) rfl rfl ?_
        refine cv_iload_n (i := 2) (q := 32) 3 C dX5_sorts_31 rfl rfl rfl ?_
        refine cv_if_ne (tgt := 39) (q := 35) C dX5_sorts_32 (by decide) rfl (fun h6 => ?_) (fun h6 => ?_)
        · have hm := cv_if_f h6 hm
          refine cv_iload_n (i := 3) (q := 40) 0 C dX5_sorts_39 rfl rfl rfl ?_
          obtain ⟨r7, hr7, hm⟩ := cv_bd_s hm
          refine cv_goE (q := 43) C (KX5_bestAsk (l := l) (σ := σ) (D := D) (cy := cy)     r5 hr7) (cv_rs (As := [.int r5]) (st := []) (n := 1) C (KX5_bestAsk (l := l) (σ := σ) (D := D) (cy := cy)     r5 hr7) gX5_sorts_X5_bestAsk rfl ⟨rfl, rfl⟩ (by decide +kernel) rfl ⟨Nat.le_of_ble_eq_true rfl, Nat.le_of_ble_eq_true rfl⟩ rfl (Nat.le_of_ble_eq_true rfl) dX5_sorts_40 ⟨Nat.zero_le _, Nat.zero_le _⟩) rfl ?_
          obtain rfl := Option.some.inj hm
          exact cv_iret C hr hk dX5_sorts_43
        · have hm := cv_if_t h6 hm
          refine cv_iload_n (i := 3) (q := 36) 0 C dX5_sorts_35 rfl rfl rfl ?_
          refine cv_goto (tgt := 43) C dX5_sorts_36 (by decide) ?_
          obtain rfl := Option.some.inj hm
          exact cv_iret C hr hk dX5_sorts_43
      · have hm := cv_if_f h4 hm
        refine cv_bipush (v := -102) (q := 18) C dX5_sorts_16 (by decide) rfl ?_
        obtain rfl := Option.some.inj hm
        exact cv_iret C hr hk dX5_sorts_18
def fX5_drawn_L58 (u1 : Int32) (u3 : Int32) : Nat → Int64 → Int32 → SX5 → Option (Int64 × SX5)
  | 0, _, _, _ => none
  | n + 1, y4, y6, S =>
    if u1 ≤ y6 then
      (
      some (y4, S)
      )
    else
      (
      cv_lt (((((1103515245 : Int64) * y4) + (12345 : Int64)) - (((1103515245 : Int64) * y4) + (12345 : Int64)) / (2147483648 : Int64) * (2147483648 : Int64))) fun x11 =>
      cv_bd (fX4_turn (gX5_trial S) ((((x11 / (65536 : Int64)) - (x11 / (65536 : Int64)) / (100 : Int64) * (100 : Int64))).toInt32)) fun r12 =>
      cv_lt (sX5_trial S r12) fun s13 =>
      cv_lt (y6 + (1 : Int32)) fun x14 =>
      fX5_drawn_L58 u1 u3 n x11 x14 s13
      )
def fX5_drawn (S : SX5) (a1 : Int32) (a2 : Int32) (a3 : Int32) : Option (Int32 × SX5) :=
  if a1 < (1 : Int32) then
    (
    some ((-102 : Int32), S)
    )
  else
    (
    if (60 : Int32) < a1 then
      (
      some ((-102 : Int32), S)
      )
    else
      (
      if a2 < 0 then
        (
        some ((-102 : Int32), S)
        )
      else
        (
        if a3 < 0 then
          (
          some ((-102 : Int32), S)
          )
        else
          (
          if a3 ≤ (2 : Int32) then
            (
            if (gX5_open S) = 0 then
              (
              some ((-103 : Int32), S)
              )
            else
              (
              cv_bd (fX4_copy (gX5_trial S) (gX3_tree (gX5_now S))) fun r7 =>
              cv_lt (sX5_trial S r7) fun s8 =>
              cv_lt ((a2).toInt64) fun x9 =>
              cv_bd (fX5_drawn_L58 a1 a3 256 x9 (0 : Int32) s8) fun j15 =>
              if a3 = 0 then
                (
                some (((gX4_cost (gX5_trial j15.2)) - (gX4_cost (gX3_tree (gX5_now j15.2)))), j15.2)
                )
              else
                (
                if a3 = 1 then
                  (
                  cv_bd (fX4_tall (gX5_trial j15.2)) fun r19 =>
                  cv_lt (sX5_trial j15.2 r19.2) fun s20 =>
                  some (r19.1, s20)
                  )
                else
                  (
                  some ((j15.1).toInt32, j15.2)
                  )
                )
              )
            )
          else
            (
            some ((-102 : Int32), S)
            )
          )
        )
      )
    )
abbrev rX5_drawn : Room := { frames := 13, cells := 0, slots := 0, locals := 310 }
theorem iX5_drawn_X3 : ∀ w ∈ u_ws RX3 TX3 8, w ∈ wsX5_drawn := fun w h => List.mem_cons_of_mem _ (List.mem_append_left _ (List.mem_append_right _ h))
theorem iX5_drawn_X4 : ∀ w ∈ u_ws RX4 TX4 12, w ∈ wsX5_drawn := fun w h => List.mem_cons_of_mem _ (List.mem_append_right _ h)
theorem iX5_drawn_X5 : ∀ w ∈ u_ws RX5 TX5 7, w ∈ wsX5_drawn := fun w h => List.mem_cons_of_mem _ (List.mem_append_left _ (List.mem_append_left _ (List.mem_append_right _ h)))
set_option maxHeartbeats 4000000 in
set_option maxRecDepth 100000 in
theorem vX5_drawn_L58 {p : Program} {l : Launch} {e : Env} {s : State} {m : MethodId} {args : Array Value} {below : List Frame} {meth : Method} {c : Code} {σ : Nat → Nat} {D : va_G} {A : Nat → Prop} {cy : ClassId} (q : Nat → Nat) (u1 : Int32) (u3 : Int32) (C : cv_C p s m args c cX5_drawn 7 RX5 wsX5_drawn σ D [(cy, .int)] A) {Q : State → Prop} {j : Int64 × SX5} : ∀ (n : Nat) (y4 : Int64) (y6 : Int32) (S : SX5), fX5_drawn_L58 u1 u3 n y4 y6 S = some j → cv_V p l e rX5_drawn s m args below meth c 7 D A Q 0 0 (wX5 q cy j.2) 104 [(0, .ref (q 0)), (3, .int u3), (4, .long j.1)] [] → cv_V p l e rX5_drawn s m args below meth c 7 D A Q 0 0 (wX5 q cy S) 58 [(0, .ref (q 0)), (1, .int u1), (3, .int u3), (4, .long y4), (6, .int y6)] [] := by
  intro n
  induction n with
  | zero => intro y4 y6 S hm kx; cases hm
  | succ n ih =>
    intro y4 y6 S hm kx
    have hm : fX5_drawn_L58 u1 u3 (n + 1) y4 y6 S = some j := hm
    unfold fX5_drawn_L58 at hm
    refine cv_iload (i := 6) (q := 60) 4 C dX5_drawn_58 rfl rfl ?_
    refine cv_iload_n (i := 1) (q := 61) 1 C dX5_drawn_60 rfl rfl rfl ?_
    refine cv_icmp_ge (tgt := 104) (q := 64) C dX5_drawn_61 (by decide) rfl (fun h10 => ?_) (fun h10 => ?_)
    · have hm := cv_if_t h10 hm
      obtain rfl := Option.some.inj hm
      refine cv_sub [0, 2, 3] rfl ?_
      exact kx
    · have hm := cv_if_f h10 hm
      refine cv_ldc2 (v := 1103515245) (q := 67) C dX5_drawn_64 (List.mem_of_getElem? (i := 5) rfl) rfl ?_
      refine cv_lload (i := 4) (q := 69) 3 C dX5_drawn_67 rfl rfl ?_
      refine cv_lmul (q := 70) C dX5_drawn_69 rfl ?_
      refine cv_ldc2 (v := 12345) (q := 73) C dX5_drawn_70 (List.mem_of_getElem? (i := 6) rfl) rfl ?_
      refine cv_ladd (q := 74) C dX5_drawn_73 rfl ?_
      refine cv_ldc2 (v := 2147483648) (q := 77) C dX5_drawn_74 (List.mem_of_getElem? (i := 7) rfl) rfl ?_
      refine cv_lrem (q := 78) C dX5_drawn_77 (by decide) rfl ?_
      obtain ⟨x11, ex11, hm⟩ := cv_lt_s hm
      refine cv_topl ex11 ?_
      refine cv_lstore (i := 4) (lv' := [(4, .long x11), (0, .ref (q 0)), (1, .int u1), (3, .int u3), (6, .int y6)]) (q := 80) C dX5_drawn_78 (by decide) rfl rfl ?_
      refine cv_aload_n (i := 0) (q := 81) 1 C dX5_drawn_80 rfl rfl rfl ?_
      refine cv_get (q := 84) C iX5_drawn_X5 0 rfl rfl 3 (by decide) (List.mem_of_getElem? (i := 2) rfl) rfl rfl dX5_drawn_81 rfl ?_
      refine cv_lload (i := 4) (q := 86) 0 C dX5_drawn_84 rfl rfl ?_
      refine cv_ldc2 (v := 65536) (q := 89) C dX5_drawn_86 (List.mem_of_getElem? (i := 8) rfl) rfl ?_
      refine cv_ldiv (q := 90) C dX5_drawn_89 (by decide) rfl ?_
      refine cv_ldc2 (v := 100) (q := 93) C dX5_drawn_90 (List.mem_of_getElem? (i := 9) rfl) rfl ?_
      refine cv_lrem (q := 94) C dX5_drawn_93 (by decide) rfl ?_
      refine cv_l2i (q := 95) C dX5_drawn_94 rfl ?_
      obtain ⟨r12, hr12, hm⟩ := cv_bd_s hm
      obtain ⟨s13, es13, hm⟩ := cv_lt_s hm
      refine cv_go (q := 98) (ws' := (wX5 q cy s13)) C (KX4_turn (l := l) (σ := σ) (D := D) (cy := cy)  (cv_sh q 31)  (gX5_trial S) ((((x11 / (65536 : Int64)) - (x11 / (65536 : Int64)) / (100 : Int64) * (100 : Int64))).toInt32) hr12) (cv_rv (As := [.int (((x11 / (65536 : Int64)) - (x11 / (65536 : Int64)) / (100 : Int64) * (100 : Int64))).toInt32]) (st := []) (n := 1) (q0 := 31) (ci := 4) C (KX4_turn (l := l) (σ := σ) (D := D) (cy := cy)  (cv_sh q 31)  (gX5_trial S) ((((x11 / (65536 : Int64)) - (x11 / (65536 : Int64)) / (100 : Int64) * (100 : Int64))).toInt32) hr12) rfl rfl gX5_drawn_X4_turn rfl ⟨rfl, rfl⟩ (by decide +kernel) rfl ⟨Nat.le_of_ble_eq_true rfl, Nat.le_of_ble_eq_true rfl⟩ rfl (Nat.le_of_ble_eq_true rfl) dX5_drawn_95 ⟨Nat.zero_le _, Nat.zero_le _⟩) [31, 32, 33, 34, 35, 36] [0, 1, 2, 3, 4, 5, 6, 7, 8, 9, 10, 11, 12, 13, 14, 15, 16, 17, 18, 19, 20, 21, 22, 23, 24, 25, 26, 27, 28, 29, 30] rfl (wr := cv_pk (wX5 q cy S) [0, 1, 2, 3, 4, 5, 6, 7, 8, 9, 10, 11, 12, 13, 14, 15, 16, 17, 18, 19, 20, 21, 22, 23, 24, 25, 26, 27, 28, 29, 30]) rfl (by decide) (by decide) (by decide) [0, 1, 2, 3, 4, 5, 6, 7, 8, 9, 10, 11, 12, 13, 14, 15, 16, 17, 18, 19, 20, 21, 22, 23, 24, 25, 26, 27, 28, 29, 30, 31, 32, 33, 34, 35, 36] (by decide) (by rw [es13]; rfl) rfl ?_
      obtain ⟨x14, ex14, hm⟩ := cv_lt_s hm
      refine cv_iinc (v := x14) (lv' := [(6, .int x14), (4, .long x11), (0, .ref (q 0)), (1, .int u1), (3, .int u3)]) (q := 101) 4 C dX5_drawn_98 rfl (by rw [ex14]; rfl) (by decide) rfl rfl ?_
      refine cv_goto (tgt := 58) C dX5_drawn_101 (by decide) ?_
      refine cv_sub [2, 3, 4, 1, 0] rfl ?_
      exact ih x11 x14 s13 hm kx
set_option maxHeartbeats 4000000 in
set_option maxRecDepth 100000 in
theorem KX5_drawn {l : Launch} {σ : Nat → Nat} {D : va_G} {cy : ClassId} (q : Nat → Nat) (S : SX5) (a1 : Int32) (a2 : Int32) (a3 : Int32) {res : Int32 × SX5} (hm : fX5_drawn S a1 a2 a3 = some res) : cv_M l yX5_drawn wsX5_drawn rX5_drawn σ D [(cy, .int)] [.ref (q 0), .int a1, .int a2, .int a3] (wX5 q cy S) (some (.int res.1)) (wX5 q cy res.2) := by
  unfold fX5_drawn at hm
  refine cv_M.of (own := RX5) (by decide +kernel) rfl rfl (lv := [(0, .ref (q 0)), (1, .int a1), (2, .int a2), (3, .int a3)]) rfl (Nat.le_of_ble_eq_true rfl) ?_
  intro p e s m args below meth c A C hr hk
  refine cv_iload_n (i := 1) (q := 1) 1 C dX5_drawn_0 rfl rfl rfl ?_
  refine cv_iconst (v := 1) (q := 2) C dX5_drawn_1 (by decide) rfl ?_
  refine cv_icmp_lt (tgt := 24) (q := 5) C dX5_drawn_2 (by decide) rfl (fun h1 => ?_) (fun h1 => ?_)
  · have hm := cv_if_t h1 hm
    refine cv_bipush (v := -102) (q := 26) C dX5_drawn_24 (by decide) rfl ?_
    obtain rfl := Option.some.inj hm
    exact cv_iret C hr hk dX5_drawn_26
  · have hm := cv_if_f h1 hm
    refine cv_iload_n (i := 1) (q := 6) 1 C dX5_drawn_5 rfl rfl rfl ?_
    refine cv_bipush (v := 60) (q := 8) C dX5_drawn_6 (by decide) rfl ?_
    refine cv_icmp_gt (tgt := 24) (q := 11) C dX5_drawn_8 (by decide) rfl (fun h2 => ?_) (fun h2 => ?_)
    · have hm := cv_if_t h2 hm
      refine cv_bipush (v := -102) (q := 26) C dX5_drawn_24 (by decide) rfl ?_
      obtain rfl := Option.some.inj hm
      exact cv_iret C hr hk dX5_drawn_26
    · have hm := cv_if_f h2 hm
      refine cv_iload_n (i := 2) (q := 12) 2 C dX5_drawn_11 rfl rfl rfl ?_
      refine cv_if_lt (tgt := 24) (q := 15) C dX5_drawn_12 (by decide) rfl (fun h3 => ?_) (fun h3 => ?_)
      · have hm := cv_if_t h3 hm
        refine cv_bipush (v := -102) (q := 26) C dX5_drawn_24 (by decide) rfl ?_
        obtain rfl := Option.some.inj hm
        exact cv_iret C hr hk dX5_drawn_26
      · have hm := cv_if_f h3 hm
        refine cv_iload_n (i := 3) (q := 16) 3 C dX5_drawn_15 rfl rfl rfl ?_
        refine cv_if_lt (tgt := 24) (q := 19) C dX5_drawn_16 (by decide) rfl (fun h4 => ?_) (fun h4 => ?_)
        · have hm := cv_if_t h4 hm
          refine cv_bipush (v := -102) (q := 26) C dX5_drawn_24 (by decide) rfl ?_
          obtain rfl := Option.some.inj hm
          exact cv_iret C hr hk dX5_drawn_26
        · have hm := cv_if_f h4 hm
          refine cv_iload_n (i := 3) (q := 20) 3 C dX5_drawn_19 rfl rfl rfl ?_
          refine cv_iconst (v := 2) (q := 21) C dX5_drawn_20 (by decide) rfl ?_
          refine cv_icmp_le (tgt := 27) (q := 24) C dX5_drawn_21 (by decide) rfl (fun h5 => ?_) (fun h5 => ?_)
          · have hm := cv_if_t h5 hm
            refine cv_aload_n (i := 0) (q := 28) 0 C dX5_drawn_27 rfl rfl rfl ?_
            refine cv_get (q := 31) C iX5_drawn_X5 0 rfl rfl 4 (by decide) (List.mem_of_getElem? (i := 1) rfl) rfl rfl dX5_drawn_28 rfl ?_
            refine cv_if_ne (tgt := 37) (q := 34) C dX5_drawn_31 (by decide) rfl (fun h6 => ?_) (fun h6 => ?_)
            · have hm := cv_if_f h6 hm
              refine cv_aload_n (i := 0) (q := 38) 0 C dX5_drawn_37 rfl rfl rfl ?_
              refine cv_get (q := 41) C iX5_drawn_X5 0 rfl rfl 3 (by decide) (List.mem_of_getElem? (i := 2) rfl) rfl rfl dX5_drawn_38 rfl ?_
              refine cv_aload_n (i := 0) (q := 42) 0 C dX5_drawn_41 rfl rfl rfl ?_
              refine cv_get (q := 45) C iX5_drawn_X5 0 rfl rfl 1 (by decide) (List.mem_of_getElem? (i := 3) rfl) rfl rfl dX5_drawn_42 rfl ?_
              refine cv_get (q := 48) C iX5_drawn_X3 3 rfl rfl 0 (by decide) (List.mem_of_getElem? (i := 4) rfl) rfl rfl dX5_drawn_45 rfl ?_
              obtain ⟨r7, hr7, hm⟩ := cv_bd_s hm
              obtain ⟨s8, es8, hm⟩ := cv_lt_s hm
              refine cv_go (q := 51) (ws' := (wX5 q cy s8)) C (KX4_copy (l := l) (σ := σ) (D := D) (cy := cy)  (cv_sh q 31) (cv_sh q 4)  (gX5_trial S) (gX3_tree (gX5_now S))  hr7) (cv_rv (As := [.ref (q 4)]) (st := []) (n := 1) (q0 := 31) (ci := 4) C (KX4_copy (l := l) (σ := σ) (D := D) (cy := cy)  (cv_sh q 31) (cv_sh q 4)  (gX5_trial S) (gX3_tree (gX5_now S))  hr7) rfl rfl gX5_drawn_X4_copy rfl ⟨rfl, rfl⟩ (by decide +kernel) rfl ⟨Nat.le_of_ble_eq_true rfl, Nat.le_of_ble_eq_true rfl⟩ rfl (Nat.le_of_ble_eq_true rfl) dX5_drawn_48 ⟨Nat.zero_le _, Nat.zero_le _⟩) [31, 32, 33, 34, 35, 36, 4, 5, 6, 7, 8, 9] [0, 1, 2, 3, 10, 11, 12, 13, 14, 15, 16, 17, 18, 19, 20, 21, 22, 23, 24, 25, 26, 27, 28, 29, 30] rfl (wr := cv_pk (wX5 q cy S) [0, 1, 2, 3, 10, 11, 12, 13, 14, 15, 16, 17, 18, 19, 20, 21, 22, 23, 24, 25, 26, 27, 28, 29, 30]) rfl (by decide) (by decide) (by decide) [0, 1, 2, 3, 31, 32, 33, 34, 35, 36, 4, 5, 6, 7, 8, 9, 10, 11, 12, 13, 14, 15, 16, 17, 18, 19, 20, 21, 22, 23, 24, 25, 26, 27, 28, 29, 30] (by decide) (by rw [es8]; rfl) rfl ?_
              refine cv_iload_n (i := 2) (q := 52) 2 C dX5_drawn_51 rfl rfl rfl ?_
              refine cv_i2l (q := 53) C dX5_drawn_52 rfl ?_
              obtain ⟨x9, ex9, hm⟩ := cv_lt_s hm
              refine cv_topl ex9 ?_
              refine cv_lstore (i := 4) (lv' := [(4, .long x9), (0, .ref (q 0)), (1, .int a1), (2, .int a2), (3, .int a3)]) (q := 55) C dX5_drawn_53 (by decide) rfl rfl ?_
              refine cv_iconst (v := 0) (q := 56) C dX5_drawn_55 (by decide) rfl ?_
              refine cv_istore (i := 6) (lv' := [(6, .int (0 : Int32)), (4, .long x9), (0, .ref (q 0)), (1, .int a1), (2, .int a2), (3, .int a3)]) (q := 58) C dX5_drawn_56 (by decide) rfl rfl ?_
              obtain ⟨j15, hj15, hm⟩ := cv_bd_s hm
              refine cv_cut (ws' := (wX5 q cy j15.2)) (pc' := 104) (lv' := [(0, .ref (q 0)), (3, .int a3), (4, .long j15.1)]) (st' := []) ?_ (fun K16 => ?_)
              · refine cv_iload_n (i := 3) (q := 105) 1 C dX5_drawn_104 rfl rfl rfl ?_
                by_cases h17 : a3 = 0
                · have hm := cv_if_t h17 hm
                  refine cv_lsw (off := 27) (tgt := 132) C dX5_drawn_105 (by decide) (by rw [h17]; first | done | rfl | decide) (by decide) ?_
                  refine cv_aload_n (i := 0) (q := 133) 0 C dX5_drawn_132 rfl rfl rfl ?_
                  refine cv_get (q := 136) C iX5_drawn_X5 0 rfl rfl 3 (by decide) (List.mem_of_getElem? (i := 2) rfl) rfl rfl dX5_drawn_133 rfl ?_
                  refine cv_get (q := 139) C iX5_drawn_X4 31 rfl rfl 11 (by decide) (List.mem_of_getElem? (i := 10) rfl) rfl rfl dX5_drawn_136 rfl ?_
                  refine cv_aload_n (i := 0) (q := 140) 0 C dX5_drawn_139 rfl rfl rfl ?_
                  refine cv_get (q := 143) C iX5_drawn_X5 0 rfl rfl 1 (by decide) (List.mem_of_getElem? (i := 3) rfl) rfl rfl dX5_drawn_140 rfl ?_
                  refine cv_get (q := 146) C iX5_drawn_X3 3 rfl rfl 0 (by decide) (List.mem_of_getElem? (i := 4) rfl) rfl rfl dX5_drawn_143 rfl ?_
                  refine cv_get (q := 149) C iX5_drawn_X4 4 rfl rfl 11 (by decide) (List.mem_of_getElem? (i := 10) rfl) rfl rfl dX5_drawn_146 rfl ?_
                  refine cv_isub (q := 150) C dX5_drawn_149 rfl ?_
                  obtain rfl := Option.some.inj hm
                  exact cv_iret C hr hk dX5_drawn_150
                · have hm := cv_if_f h17 hm
                  by_cases h18 : a3 = 1
                  · have hm := cv_if_t h18 hm
                    refine cv_lsw (off := 46) (tgt := 151) C dX5_drawn_105 (by decide) (by rw [h18]; first | done | rfl | decide) (by decide) ?_
                    refine cv_aload_n (i := 0) (q := 152) 0 C dX5_drawn_151 rfl rfl rfl ?_
                    refine cv_get (q := 155) C iX5_drawn_X5 0 rfl rfl 3 (by decide) (List.mem_of_getElem? (i := 2) rfl) rfl rfl dX5_drawn_152 rfl ?_
                    obtain ⟨r19, hr19, hm⟩ := cv_bd_s hm
                    obtain ⟨s20, es20, hm⟩ := cv_lt_s hm
                    refine cv_go (q := 158) (ws' := (wX5 q cy s20)) C (KX4_tall (l := l) (σ := σ) (D := D) (cy := cy)  (cv_sh q 31)  (gX5_trial j15.2)  hr19) (cv_rv (As := []) (st := []) (n := 0) (q0 := 31) (ci := 4) C (KX4_tall (l := l) (σ := σ) (D := D) (cy := cy)  (cv_sh q 31)  (gX5_trial j15.2)  hr19) rfl rfl gX5_drawn_X4_tall rfl ⟨rfl, rfl⟩ (by decide +kernel) rfl ⟨Nat.le_of_ble_eq_true rfl, Nat.le_of_ble_eq_true rfl⟩ rfl (Nat.le_of_ble_eq_true rfl) dX5_drawn_155 ⟨Nat.zero_le _, Nat.zero_le _⟩) [31, 32, 33, 34, 35, 36] [0, 1, 2, 3, 4, 5, 6, 7, 8, 9, 10, 11, 12, 13, 14, 15, 16, 17, 18, 19, 20, 21, 22, 23, 24, 25, 26, 27, 28, 29, 30] rfl (wr := cv_pk (wX5 q cy j15.2) [0, 1, 2, 3, 4, 5, 6, 7, 8, 9, 10, 11, 12, 13, 14, 15, 16, 17, 18, 19, 20, 21, 22, 23, 24, 25, 26, 27, 28, 29, 30]) rfl (by decide) (by decide) (by decide) [0, 1, 2, 3, 4, 5, 6, 7, 8, 9, 10, 11, 12, 13, 14, 15, 16, 17, 18, 19, 20, 21, 22, 23, 24, 25, 26, 27, 28, 29, 30, 31, 32, 33, 34, 35, 36] (by decide) (by rw [es20]; rfl) rfl ?_
                    obtain rfl := Option.some.inj hm
                    exact cv_iret C hr hk dX5_drawn_158
                  · have hm := cv_if_f h18 hm
                    refine cv_lsw (off := 54) (tgt := 159) C dX5_drawn_105 (by decide) (by (try rw [lv_osw (k := 0) h17 (by decide)]); (try rw [lv_osw (k := 1) h18 (by decide)]); first | done | rfl) (by decide) ?_
                    refine cv_lload (i := 4) (q := 161) 2 C dX5_drawn_159 rfl rfl ?_
                    refine cv_l2i (q := 162) C dX5_drawn_161 rfl ?_
                    obtain rfl := Option.some.inj hm
                    exact cv_iret C hr hk dX5_drawn_162
              · refine cv_sub [2, 3, 5, 1, 0] rfl ?_
                exact vX5_drawn_L58 q a1 a3 C 256 x9 (0 : Int32) s8 hj15 K16
            · have hm := cv_if_t h6 hm
              refine cv_bipush (v := -103) (q := 36) C dX5_drawn_34 (by decide) rfl ?_
              obtain rfl := Option.some.inj hm
              exact cv_iret C hr hk dX5_drawn_36
          · have hm := cv_if_f h5 hm
            refine cv_bipush (v := -102) (q := 26) C dX5_drawn_24 (by decide) rfl ?_
            obtain rfl := Option.some.inj hm
            exact cv_iret C hr hk dX5_drawn_26
def fX5_image (S : SX5) : Option (Int32 × SX5) :=
  if (gX5_open S) = 0 then
    (
    some ((-103 : Int32), S)
    )
  else
    (
    cv_bd (fX3_copy (gX5_kept S) (gX5_now S)) fun r2 =>
    cv_lt (sX5_kept S r2) fun s3 =>
    cv_lt (sX5_imaged s3 (1 : Int32)) fun s4 =>
    some ((gX4_number (gX3_tree (gX5_now s4))), s4)
    )
abbrev rX5_image : Room := { frames := 3, cells := 0, slots := 0, locals := 102 }
theorem iX5_image_X3 : ∀ w ∈ u_ws RX3 TX3 8, w ∈ wsX5_image := fun w h => List.mem_cons_of_mem _ (List.mem_append_left _ (List.mem_append_left _ (List.mem_append_left _ (List.mem_append_right _ h))))
theorem iX5_image_X4 : ∀ w ∈ u_ws RX4 TX4 12, w ∈ wsX5_image := fun w h => List.mem_cons_of_mem _ (List.mem_append_left _ (List.mem_append_left _ (List.mem_append_right _ h)))
theorem iX5_image_X5 : ∀ w ∈ u_ws RX5 TX5 7, w ∈ wsX5_image := fun w h => List.mem_cons_of_mem _ (List.mem_append_left _ (List.mem_append_left _ (List.mem_append_left _ (List.mem_append_left _ (List.mem_append_right _ h)))))
set_option maxHeartbeats 4000000 in
set_option maxRecDepth 100000 in
theorem KX5_image {l : Launch} {σ : Nat → Nat} {D : va_G} {cy : ClassId} (q : Nat → Nat) (S : SX5) {res : Int32 × SX5} (hm : fX5_image S = some res) : cv_M l yX5_image wsX5_image rX5_image σ D [(cy, .int)] [.ref (q 0)] (wX5 q cy S) (some (.int res.1)) (wX5 q cy res.2) := by
  unfold fX5_image at hm
  refine cv_M.of (own := RX5) (by decide +kernel) rfl rfl (lv := [(0, .ref (q 0))]) rfl (Nat.le_of_ble_eq_true rfl) ?_
  intro p e s m args below meth c A C hr hk
  refine cv_aload_n (i := 0) (q := 1) 0 C dX5_image_0 rfl rfl rfl ?_
  refine cv_get (q := 4) C iX5_image_X5 0 rfl rfl 4 (by decide) (List.mem_of_getElem? (i := 1) rfl) rfl rfl dX5_image_1 rfl ?_
  refine cv_if_ne (tgt := 10) (q := 7) C dX5_image_4 (by decide) rfl (fun h1 => ?_) (fun h1 => ?_)
  · have hm := cv_if_f h1 hm
    refine cv_aload_n (i := 0) (q := 11) 0 C dX5_image_10 rfl rfl rfl ?_
    refine cv_get (q := 14) C iX5_image_X5 0 rfl rfl 2 (by decide) (List.mem_of_getElem? (i := 2) rfl) rfl rfl dX5_image_11 rfl ?_
    refine cv_aload_n (i := 0) (q := 15) 0 C dX5_image_14 rfl rfl rfl ?_
    refine cv_get (q := 18) C iX5_image_X5 0 rfl rfl 1 (by decide) (List.mem_of_getElem? (i := 3) rfl) rfl rfl dX5_image_15 rfl ?_
    obtain ⟨r2, hr2, hm⟩ := cv_bd_s hm
    obtain ⟨s3, es3, hm⟩ := cv_lt_s hm
    refine cv_go (q := 21) (ws' := (wX5 q cy s3)) C (KX3_copy (l := l) (σ := σ) (D := D) (cy := cy)  (cv_sh q 17) (cv_sh q 3)  (gX5_kept S) (gX5_now S)  hr2) (cv_rv (As := [.ref (q 3)]) (st := []) (n := 1) (q0 := 17) (ci := 3) C (KX3_copy (l := l) (σ := σ) (D := D) (cy := cy)  (cv_sh q 17) (cv_sh q 3)  (gX5_kept S) (gX5_now S)  hr2) rfl rfl gX5_image_X3_copy rfl ⟨rfl, rfl⟩ (by decide +kernel) rfl ⟨Nat.le_of_ble_eq_true rfl, Nat.le_of_ble_eq_true rfl⟩ rfl (Nat.le_of_ble_eq_true rfl) dX5_image_18 ⟨Nat.zero_le _, Nat.zero_le _⟩) [17, 18, 19, 20, 21, 22, 23, 24, 25, 26, 27, 28, 29, 30, 3, 4, 5, 6, 7, 8, 9, 10, 11, 12, 13, 14, 15, 16] [0, 1, 2, 31, 32, 33, 34, 35, 36] rfl (wr := cv_pk (wX5 q cy S) [0, 1, 2, 31, 32, 33, 34, 35, 36]) rfl (by decide) (by decide) (by decide) [0, 1, 2, 23, 24, 25, 26, 27, 28, 29, 30, 31, 32, 33, 34, 35, 36, 9, 10, 11, 12, 13, 14, 15, 16, 17, 18, 19, 20, 21, 22, 3, 4, 5, 6, 7, 8] (by decide) (by rw [es3]; rfl) rfl ?_
    refine cv_aload_n (i := 0) (q := 22) 0 C dX5_image_21 rfl rfl rfl ?_
    refine cv_iconst (v := 1) (q := 23) C dX5_image_22 (by decide) rfl ?_
    obtain ⟨s4, es4, hm⟩ := cv_lt_s hm
    refine cv_put (q := 26) (ws' := (wX5 q cy s4)) C iX5_image_X5 tyX5 tyX5_ok nmX5 0 rfl rfl 5 (by decide) (List.mem_of_getElem? (i := 4) rfl) rfl rfl rfl (by decide) (by decide) (Nat.le_of_ble_eq_true rfl) dX5_image_23 rfl (by rw [es4]; rfl) ?_
    refine cv_aload_n (i := 0) (q := 27) 0 C dX5_image_26 rfl rfl rfl ?_
    refine cv_get (q := 30) C iX5_image_X5 0 rfl rfl 1 (by decide) (List.mem_of_getElem? (i := 3) rfl) rfl rfl dX5_image_27 rfl ?_
    refine cv_get (q := 33) C iX5_image_X3 3 rfl rfl 0 (by decide) (List.mem_of_getElem? (i := 5) rfl) rfl rfl dX5_image_30 rfl ?_
    refine cv_get (q := 36) C iX5_image_X4 4 rfl rfl 8 (by decide) (List.mem_of_getElem? (i := 6) rfl) rfl rfl dX5_image_33 rfl ?_
    obtain rfl := Option.some.inj hm
    exact cv_iret C hr hk dX5_image_36
  · have hm := cv_if_t h1 hm
    refine cv_bipush (v := -103) (q := 9) C dX5_image_7 (by decide) rfl ?_
    obtain rfl := Option.some.inj hm
    exact cv_iret C hr hk dX5_image_9
def fX5_restore (S : SX5) : Option (Int32 × SX5) :=
  if (gX5_imaged S) = 0 then
    (
    some ((-103 : Int32), S)
    )
  else
    (
    cv_bd (fX3_copy (gX5_now S) (gX5_kept S)) fun r2 =>
    cv_lt (sX5_now S r2) fun s3 =>
    some ((gX4_number (gX3_tree (gX5_now s3))), s3)
    )
abbrev rX5_restore : Room := { frames := 3, cells := 0, slots := 0, locals := 102 }
theorem iX5_restore_X3 : ∀ w ∈ u_ws RX3 TX3 8, w ∈ wsX5_restore := fun w h => List.mem_cons_of_mem _ (List.mem_append_left _ (List.mem_append_left _ (List.mem_append_left _ (List.mem_append_right _ h))))
theorem iX5_restore_X4 : ∀ w ∈ u_ws RX4 TX4 12, w ∈ wsX5_restore := fun w h => List.mem_cons_of_mem _ (List.mem_append_left _ (List.mem_append_left _ (List.mem_append_right _ h)))
theorem iX5_restore_X5 : ∀ w ∈ u_ws RX5 TX5 7, w ∈ wsX5_restore := fun w h => List.mem_cons_of_mem _ (List.mem_append_left _ (List.mem_append_left _ (List.mem_append_left _ (List.mem_append_left _ (List.mem_append_right _ h)))))
set_option maxHeartbeats 4000000 in
set_option maxRecDepth 100000 in
theorem KX5_restore {l : Launch} {σ : Nat → Nat} {D : va_G} {cy : ClassId} (q : Nat → Nat) (S : SX5) {res : Int32 × SX5} (hm : fX5_restore S = some res) : cv_M l yX5_restore wsX5_restore rX5_restore σ D [(cy, .int)] [.ref (q 0)] (wX5 q cy S) (some (.int res.1)) (wX5 q cy res.2) := by
  unfold fX5_restore at hm
  refine cv_M.of (own := RX5) (by decide +kernel) rfl rfl (lv := [(0, .ref (q 0))]) rfl (Nat.le_of_ble_eq_true rfl) ?_
  intro p e s m args below meth c A C hr hk
  refine cv_aload_n (i := 0) (q := 1) 0 C dX5_restore_0 rfl rfl rfl ?_
  refine cv_get (q := 4) C iX5_restore_X5 0 rfl rfl 5 (by decide) (List.mem_of_getElem? (i := 1) rfl) rfl rfl dX5_restore_1 rfl ?_
  refine cv_if_ne (tgt := 10) (q := 7) C dX5_restore_4 (by decide) rfl (fun h1 => ?_) (fun h1 => ?_)
  · have hm := cv_if_f h1 hm
    refine cv_aload_n (i := 0) (q := 11) 0 C dX5_restore_10 rfl rfl rfl ?_
    refine cv_get (q := 14) C iX5_restore_X5 0 rfl rfl 1 (by decide) (List.mem_of_getElem? (i := 2) rfl) rfl rfl dX5_restore_11 rfl ?_
    refine cv_aload_n (i := 0) (q := 15) 0 C dX5_restore_14 rfl rfl rfl ?_
    refine cv_get (q := 18) C iX5_restore_X5 0 rfl rfl 2 (by decide) (List.mem_of_getElem? (i := 3) rfl) rfl rfl dX5_restore_15 rfl ?_
    obtain ⟨r2, hr2, hm⟩ := cv_bd_s hm
    obtain ⟨s3, es3, hm⟩ := cv_lt_s hm
    refine cv_go (q := 21) (ws' := (wX5 q cy s3)) C (KX3_copy (l := l) (σ := σ) (D := D) (cy := cy)  (cv_sh q 3) (cv_sh q 17)  (gX5_now S) (gX5_kept S)  hr2) (cv_rv (As := [.ref (q 17)]) (st := []) (n := 1) (q0 := 3) (ci := 3) C (KX3_copy (l := l) (σ := σ) (D := D) (cy := cy)  (cv_sh q 3) (cv_sh q 17)  (gX5_now S) (gX5_kept S)  hr2) rfl rfl gX5_restore_X3_copy rfl ⟨rfl, rfl⟩ (by decide +kernel) rfl ⟨Nat.le_of_ble_eq_true rfl, Nat.le_of_ble_eq_true rfl⟩ rfl (Nat.le_of_ble_eq_true rfl) dX5_restore_18 ⟨Nat.zero_le _, Nat.zero_le _⟩) [3, 4, 5, 6, 7, 8, 9, 10, 11, 12, 13, 14, 15, 16, 17, 18, 19, 20, 21, 22, 23, 24, 25, 26, 27, 28, 29, 30] [0, 1, 2, 31, 32, 33, 34, 35, 36] rfl (wr := cv_pk (wX5 q cy S) [0, 1, 2, 31, 32, 33, 34, 35, 36]) rfl (by decide) (by decide) (by decide) [0, 1, 2, 9, 10, 11, 12, 13, 14, 15, 16, 17, 18, 19, 20, 21, 22, 23, 24, 25, 26, 27, 28, 29, 30, 31, 32, 33, 34, 35, 36, 3, 4, 5, 6, 7, 8] (by decide) (by rw [es3]; rfl) rfl ?_
    refine cv_aload_n (i := 0) (q := 22) 0 C dX5_restore_21 rfl rfl rfl ?_
    refine cv_get (q := 25) C iX5_restore_X5 0 rfl rfl 1 (by decide) (List.mem_of_getElem? (i := 2) rfl) rfl rfl dX5_restore_22 rfl ?_
    refine cv_get (q := 28) C iX5_restore_X3 3 rfl rfl 0 (by decide) (List.mem_of_getElem? (i := 4) rfl) rfl rfl dX5_restore_25 rfl ?_
    refine cv_get (q := 31) C iX5_restore_X4 4 rfl rfl 8 (by decide) (List.mem_of_getElem? (i := 5) rfl) rfl rfl dX5_restore_28 rfl ?_
    obtain rfl := Option.some.inj hm
    exact cv_iret C hr hk dX5_restore_31
  · have hm := cv_if_t h1 hm
    refine cv_bipush (v := -103) (q := 9) C dX5_restore_7 (by decide) rfl ?_
    obtain rfl := Option.some.inj hm
    exact cv_iret C hr hk dX5_restore_9
