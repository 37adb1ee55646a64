/-! the law: its start -/
theorem lq_st {s : State} {b : Nat} (hts : ∀ w ∈ lw_tbl, w.before #[Value.ref b] s = true) (hgv : (Jvm.Cond.and given_1 narrow_1).before #[Value.ref b] s = true) : ∃ σ, cv_ST σ (lq_A s) s s.heap := by
  have hs := flat_of_before _ hgv
  have ht : ∀ (i : Nat) (w : Cond), tables_1[i]? = some w → w.before #[Value.ref b] s = true := fun i w h => hts w (List.mem_append_right _ (List.mem_of_getElem? h))
  have hA : ∀ a : Nat, a < s.heap.size → ¬ lq_A s a := fun a h => Nat.not_le.mpr h
  have z1 : va_Z "java/lang/String" "COMPACT_STRINGS" "Z" (.int 1) (lq_A s) s s.heap := va_Zof (ht 251 (.laysStatic "java/lang/String" "COMPACT_STRINGS" "Z") (by decide +kernel)) (ht 8 (.initialized "java/lang/String") (by decide +kernel)) (va_eqt (hs (.eq (.static "java/lang/String" "COMPACT_STRINGS" "Z") (.int 1)) (by decide +kernel))) hA
  obtain ⟨t0, e0, hT⟩ : ∃ t : Nat, (Term.static "CreditShelf" "ABLE" "[I").eval #[Value.ref b] s none [] s = some (.ref t) ∧ va_T .int t 4 (fun j => .int (cv_able j)) (lq_A s) s s.heap := by
    refine va_Tof (by decide) (hs (.arrayOf (.static "CreditShelf" "ABLE" "[I") .int) (by decide +kernel)) (va_eqt (hs (.eq (.length (.static "CreditShelf" "ABLE" "[I")) (.int (Int32.ofNat 4))) (by decide +kernel))) (fun j hj => ?_) hA
    rcases (show j = 0 ∨ j = 1 ∨ j = 2 ∨ j = 3 by omega) with rfl | rfl | rfl | rfl
    · exact va_eqt (hs (.eq (.elem (.static "CreditShelf" "ABLE" "[I") (.int (Int32.ofNat 0))) (.int 13)) (by decide +kernel))
    · exact va_eqt (hs (.eq (.elem (.static "CreditShelf" "ABLE" "[I") (.int (Int32.ofNat 1))) (.int 15)) (by decide +kernel))
    · exact va_eqt (hs (.eq (.elem (.static "CreditShelf" "ABLE" "[I") (.int (Int32.ofNat 2))) (.int 4)) (by decide +kernel))
    · exact va_eqt (hs (.eq (.elem (.static "CreditShelf" "ABLE" "[I") (.int (Int32.ofNat 3))) (.int 23)) (by decide +kernel))
  have z0 : va_Z "CreditShelf" "ABLE" "[I" (.ref t0) (lq_A s) s s.heap := va_Zof (ht 463 (.laysStatic "CreditShelf" "ABLE" "[I") (by decide +kernel)) (ht 1 (.initialized "CreditShelf") (by decide +kernel)) e0 hA
  obtain ⟨adK, adV, hS, hE⟩ : ∃ adK adV : Nat → Nat, vk_S 1 [5] cv_byt adK adV (lq_A s) s s.heap ∧ ∀ i : Nat, i < 1 → (Term.string "CreditShelf$Page" 25).eval #[Value.ref b] s none [] s = some (.ref (adK i)) := by
    refine vk_Sof (tm := fun _ => (.string "CreditShelf$Page" 25)) (fun i hi => ?_) (fun i hi => hs (.exactly (.string "CreditShelf$Page" 25) "java/lang/String") (by decide +kernel)) (fun i hi => hs (.eq (.field (.string "CreditShelf$Page" 25) "java/lang/String" "coder" "B") (.int 0)) (by decide +kernel)) (fun i hi => hs (.arrayOf (.field (.string "CreditShelf$Page" 25) "java/lang/String" "value" "[B") .byte) (by decide +kernel)) (fun i hi => ?_) (fun i hi j hj => ?_) (fun i j hi hj h => absurd (by omega) h) hA
    · obtain rfl : i = 0 := by omega
      decide
    · obtain rfl : i = 0 := by omega
      exact hs (.eq (.length (.field (.string "CreditShelf$Page" 25) "java/lang/String" "value" "[B")) (.int (Int32.ofNat 5))) (by decide +kernel)
    · obtain rfl : i = 0 := by omega
      have hj5 : j < 5 := hj
      rcases (show j = 0 ∨ j = 1 ∨ j = 2 ∨ j = 3 ∨ j = 4 by omega) with rfl | rfl | rfl | rfl | rfl
      · exact hs (.eq (.elem (.field (.string "CreditShelf$Page" 25) "java/lang/String" "value" "[B") (.int (Int32.ofNat 0))) (.int 110)) (by decide +kernel)
      · exact hs (.eq (.elem (.field (.string "CreditShelf$Page" 25) "java/lang/String" "value" "[B") (.int (Int32.ofNat 1))) (.int 108)) (by decide +kernel)
      · exact hs (.eq (.elem (.field (.string "CreditShelf$Page" 25) "java/lang/String" "value" "[B") (.int (Int32.ofNat 2))) (.int 99)) (by decide +kernel)
      · exact hs (.eq (.elem (.field (.string "CreditShelf$Page" 25) "java/lang/String" "value" "[B") (.int (Int32.ofNat 3))) (.int 102)) (by decide +kernel)
      · exact hs (.eq (.elem (.field (.string "CreditShelf$Page" 25) "java/lang/String" "value" "[B") (.int (Int32.ofNat 4))) (.int 115)) (by decide +kernel)
  have hS1 : vk_S 1 [5] cv_byt (fun _ => adK 0) (fun _ => adV 0) (lq_A s) s s.heap := ⟨fun i hi => by
    obtain rfl : i = 0 := by omega
    exact hS.1 0 hi, fun i j hi hj _ => by omega⟩
  refine ⟨fun k => if k = 0 then t0 else if k = 1 then adK 0 else adV 0, z0, hT, vk_R.of (ht 237 (.stringRef "CreditShelf$Page" 25 "nlcfs") (by decide +kernel)) (hE 0 (by decide)), hS1, z1, va_Nw.of rfl (ht 222 (.methodLinkNest RX1 39 yX5_isRatio RX5) (by decide +kernel)), va_Nw.of rfl (ht 27 (.methodLinkNest RX5 11 yX1_init RX5) (by decide +kernel)), va_Nw.of rfl (ht 43 (.methodLinkNest RX5 18 yX3_init RX5) (by decide +kernel)), va_Nw.of rfl (ht 167 (.methodLinkNest RX5 28 yX4_init RX5) (by decide +kernel)), va_Nw.of rfl (ht 49 (.methodLinkNest RX3 11 yX4_init RX5) (by decide +kernel)), va_Nw.of rfl (ht 101 (.methodLinkNest RX3 27 yX0_init RX5) (by decide +kernel)), va_Nw.of rfl (ht 117 (.methodLinkNest RX3 34 yX2_init RX5) (by decide +kernel))⟩
section LQS
variable {p : Program} {l : Launch} {e : Env} {s : State} {m : MethodId} {below : List Frame} {meth : Method} {c : Code} {σ : Nat → Nat} {D : va_G} {cy : ClassId} {b L : Nat} {xs : Nat → Int32}
set_option maxHeartbeats 4000000 in
set_option maxRecDepth 100000 in
/-- both are made -/
theorem lq_start {Q : State → Prop} (C : lq_C p s m c b σ D cy) (X : lq_X s b L xs) (kend : ∀ (qa qb : Nat → Nat) (i : Int) (S : SX5) (M : SX6), cv_V p l e room_1 s m #[Value.ref b] below meth c 4 D (lq_A s) Q 64 4242 (wX5 qa cy S ++ wX6 qb cy M) 766 (lq_lv i qa qb b) []) : cv_V p l e room_1 s m #[Value.ref b] below meth c 4 D (lq_A s) Q 0 0 [] 0 [(0, .ref b)] [] := by
  refine cv_newo (ci := 5) (fs := [.null, .null, .null, .null, .int 0, .int 0, .int 0]) (c1 := 1) (s1 := 7) (q := 3) C inlX5 tyX5 tyX5_ok (List.mem_of_getElem? (i := 0) (by decide +kernel)) (List.mem_of_getElem? (i := 1) (by decide +kernel)) (List.mem_of_getElem? (i := 2) (by decide +kernel)) rfl dfX5 rfl rfl (Nat.le_of_ble_eq_true rfl) (Nat.le_of_ble_eq_true rfl) dL_law_0 rfl (fun a1 => ?_)
  refine cv_ws (ws' := [(a1, .inr (5, [.null, .null, .null, .null, .int 0, .int 0, .int 0]))]) rfl ?_
  refine cv_dup (q := 4) C dL_law_3 rfl rfl ?_
  refine cv_goI (wr := []) (c1 := 37) (s1 := 1809) (q := 7) C (cv_ri C (KX5_init a1) gL_law_X5_init (List.mem_of_getElem? (i := 6) (by decide +kernel)) (List.mem_of_getElem? (i := 7) (by decide +kernel)) (List.mem_of_getElem? (i := 2) (by decide +kernel)) rfl ⟨rfl, rfl⟩ rfl (by decide +kernel) ⟨(Nat.le_of_ble_eq_true rfl), (Nat.le_of_ble_eq_true rfl)⟩ (Nat.le_of_ble_eq_true rfl) dL_law_4 ⟨(Nat.le_of_ble_eq_true rfl), (Nat.le_of_ble_eq_true rfl)⟩) [0] [] rfl rfl rfl rfl (fun _ h => absurd h List.not_mem_nil) rfl rfl rfl (fun qa ha => ?_)
  subst ha
  refine cv_ws (ws' := wX5 qa cy IX5) rfl ?_
  refine cv_astore_n (i := 1) (lv' := [(1, .ref (qa 0)), (0, .ref b)]) (q := 8) C dL_law_7 rfl (by decide) rfl rfl ?_
  refine cv_newo (ci := 6) (fs := [.null, .int 0, .null, .null, .null, .null, .null, .null, .null, .int 0, .null, .null, .null, .null, .int 0, .int 0, .int 0, .int 0, .int 0, .int 0, .int 0, .null, .int 0, .int 0, .null, .null, .null, .null, .int 0, .null, .int 0, .int 0, .int 0, .int 0, .int 0, .int 0, .int 0, .int 0, .int 0, .int 0, .int 0, .null, .null, .null, .null, .null, .null, .null, .null, .long 0]) (c1 := 38) (s1 := 1859) (q := 11) C inlX6 tyX6 tyX6_ok (List.mem_of_getElem? (i := 3) (by decide +kernel)) (List.mem_of_getElem? (i := 4) (by decide +kernel)) (List.mem_of_getElem? (i := 5) (by decide +kernel)) rfl dfX6 rfl rfl (Nat.le_of_ble_eq_true rfl) (Nat.le_of_ble_eq_true rfl) dL_law_8 rfl (fun a2 => ?_)
  refine cv_dup (q := 12) C dL_law_11 rfl rfl ?_
  refine cv_goI (wc := [(a2, .inr (6, [.null, .int 0, .null, .null, .null, .null, .null, .null, .null, .int 0, .null, .null, .null, .null, .int 0, .int 0, .int 0, .int 0, .int 0, .int 0, .int 0, .null, .int 0, .int 0, .null, .null, .null, .null, .int 0, .null, .int 0, .int 0, .int 0, .int 0, .int 0, .int 0, .int 0, .int 0, .int 0, .int 0, .int 0, .null, .null, .null, .null, .null, .null, .null, .null, .long 0]))]) (wr := wX5 qa cy IX5) (c1 := 64) (s1 := 4242) (q := 15) C (cv_ri C (KX6_init a2) gL_law_X6_init (List.mem_of_getElem? (i := 63) (by decide +kernel)) (List.mem_of_getElem? (i := 64) (by decide +kernel)) (List.mem_of_getElem? (i := 5) (by decide +kernel)) rfl ⟨rfl, rfl⟩ rfl (by decide +kernel) ⟨(Nat.le_of_ble_eq_true rfl), (Nat.le_of_ble_eq_true rfl)⟩ (Nat.le_of_ble_eq_true rfl) dL_law_12 ⟨(Nat.le_of_ble_eq_true rfl), (Nat.le_of_ble_eq_true rfl)⟩) [37] [0, 1, 2, 3, 4, 5, 6, 7, 8, 9, 10, 11, 12, 13, 14, 15, 16, 17, 18, 19, 20, 21, 22, 23, 24, 25, 26, 27, 28, 29, 30, 31, 32, 33, 34, 35, 36] rfl rfl (by decide +kernel) (by decide +kernel) (by decide +kernel) rfl rfl rfl (fun qb hb => ?_)
  subst hb
  refine cv_ws (ws' := wX5 qa cy IX5 ++ wX6 qb cy IX6) rfl ?_
  refine cv_astore_n (i := 2) (lv' := [(2, .ref (qb 0)), (1, .ref (qa 0)), (0, .ref b)]) (q := 16) C dL_law_15 rfl (by decide) rfl rfl ?_
  refine cv_iconst (v := ii 0) (q := 17) C dL_law_16 rfl rfl ?_
  refine cv_istore_n (i := 3) (lv' := [(3, .int (ii 0)), (2, .ref (qb 0)), (1, .ref (qa 0)), (0, .ref b)]) (q := 18) C dL_law_17 rfl (by decide) rfl rfl ?_
  exact cv_sub (lv' := lq_lv 0 qa qb b) [3, 2, 1, 0] rfl (lq_loop C X (kend qa qb) (L + 1) 0 0 IX5 IX6 (by omega) (by omega) (by omega) (by omega) (by omega) Inv_0)
end LQS
