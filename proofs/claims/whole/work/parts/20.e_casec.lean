/-! the law: its cases -/
section LQC
variable {p : Program} {l : Launch} {e : Env} {s : State} {m : MethodId} {below : List Frame} {meth : Method} {c : Code} {σ : Nat → Nat} {D : va_G} {cy : ClassId} {b L : Nat} {xs : Nat → Int32} {qa qb : Nat → Nat} {Q : State → Prop} {i n : Int} {S : SX5} {M : SX6}
set_option maxHeartbeats 4000000 in
set_option maxRecDepth 100000 in
theorem lq_see (C : lq_C p s m c b σ D cy) (X : lq_X s b L xs) (hi : 0 ≤ i ∧ i + 4 ≤ L) (hn : 0 ≤ n ∧ n ≤ 9000) (hI : Inv n S M) (k : ∀ S' M', Inv (n + 9) S' M' → cv_V p l e room_1 s m #[Value.ref b] below meth c 4 D (lq_A s) Q 64 4242 (wX5 qa cy S' ++ wX6 qb cy M') 760 (lq_lv i qa qb b) []) : cv_V p l e room_1 s m #[Value.ref b] below meth c 4 D (lq_A s) Q 64 4242 (wX5 qa cy S ++ wX6 qb cy M) 549 (lq_lv i qa qb b) [] := by
  obtain ⟨r, S', M', e1, e2, hJ⟩ := B_see ⟨hn.1, by omega⟩ hI (xs (ii i + ii 1).toNatClampNeg) (xs (ii i + ii 2).toNatClampNeg) (if xs (ii i + ii 3).toNatClampNeg = 0 then 0 else 1)
  refine cv_aload_n (i := 1) (q := 550) 1 C dL_law_549 rfl rfl rfl ?_
  refine lq_rd (q := 555) 1 (by omega) C X hi dL_law_550 dL_law_551 dL_law_552 dL_law_553 dL_law_554 rfl ?_
  refine lq_rd (q := 560) 2 (by omega) C X hi dL_law_555 dL_law_556 dL_law_557 dL_law_558 dL_law_559 rfl ?_
  refine lq_rd (q := 565) 3 (by omega) C X hi dL_law_560 dL_law_561 dL_law_562 dL_law_563 dL_law_564 rfl ?_
  refine lq_nz (q := 573) C dL_law_565 dL_law_568 dL_law_569 dL_law_572 rfl ?_
  refine lq_5 (n := 3) (As := [.int (xs (ii i + ii 1).toNatClampNeg), .int (xs (ii i + ii 2).toNatClampNeg), .int (if xs (ii i + ii 3).toNatClampNeg = 0 then 0 else 1)]) (st := []) (q := 576) C (KX5_see (res := (r, S')) qa S (xs (ii i + ii 1).toNatClampNeg) (xs (ii i + ii 2).toNatClampNeg) (if xs (ii i + ii 3).toNatClampNeg = 0 then 0 else 1) e1) gL_law_X5_see rfl ⟨rfl, rfl⟩ (by decide +kernel) rfl ⟨(Nat.le_of_ble_eq_true rfl), (Nat.le_of_ble_eq_true rfl)⟩ rfl (Nat.le_of_ble_eq_true rfl) dL_law_573 rfl ?_
  refine cv_aload_n (i := 2) (q := 577) 2 C dL_law_576 rfl rfl rfl ?_
  refine lq_rd (q := 582) 1 (by omega) C X hi dL_law_577 dL_law_578 dL_law_579 dL_law_580 dL_law_581 rfl ?_
  refine lq_rd (q := 587) 2 (by omega) C X hi dL_law_582 dL_law_583 dL_law_584 dL_law_585 dL_law_586 rfl ?_
  refine lq_rd (q := 592) 3 (by omega) C X hi dL_law_587 dL_law_588 dL_law_589 dL_law_590 dL_law_591 rfl ?_
  refine lq_nz (q := 600) C dL_law_592 dL_law_595 dL_law_596 dL_law_599 rfl ?_
  refine lq_6 (n := 3) (As := [.int (xs (ii i + ii 1).toNatClampNeg), .int (xs (ii i + ii 2).toNatClampNeg), .int (if xs (ii i + ii 3).toNatClampNeg = 0 then 0 else 1)]) (st := [.int r]) (q := 603) C (KX6_see (res := (r, M')) qb M (xs (ii i + ii 1).toNatClampNeg) (xs (ii i + ii 2).toNatClampNeg) (if xs (ii i + ii 3).toNatClampNeg = 0 then 0 else 1) e2) gL_law_X6_see rfl ⟨rfl, rfl⟩ (by decide +kernel) rfl ⟨(Nat.le_of_ble_eq_true rfl), (Nat.le_of_ble_eq_true rfl)⟩ rfl (Nat.le_of_ble_eq_true rfl) dL_law_600 rfl ?_
  exact cv_icmp_eq (tgt := 760) (q := 606) C dL_law_603 (by decide) rfl (fun _ => k S' M' (Inv_mono hJ (by omega))) (fun h => absurd rfl h)
set_option maxHeartbeats 4000000 in
set_option maxRecDepth 100000 in
theorem lq_forget (C : lq_C p s m c b σ D cy) (X : lq_X s b L xs) (hi : 0 ≤ i ∧ i + 4 ≤ L) (hn : 0 ≤ n ∧ n ≤ 9000) (hI : Inv n S M) (k : ∀ S' M', Inv (n + 9) S' M' → cv_V p l e room_1 s m #[Value.ref b] below meth c 4 D (lq_A s) Q 64 4242 (wX5 qa cy S' ++ wX6 qb cy M') 760 (lq_lv i qa qb b) []) : cv_V p l e room_1 s m #[Value.ref b] below meth c 4 D (lq_A s) Q 64 4242 (wX5 qa cy S ++ wX6 qb cy M) 608 (lq_lv i qa qb b) [] := by
  obtain ⟨r, S', M', e1, e2, hJ⟩ := B_forget ⟨hn.1, by omega⟩ hI
  refine cv_aload_n (i := 1) (q := 609) 1 C dL_law_608 rfl rfl rfl ?_
  refine lq_5 (n := 0) (As := []) (st := []) (q := 612) C (KX5_forget (res := (r, S')) qa S e1) gL_law_X5_forget rfl ⟨rfl, rfl⟩ (by decide +kernel) rfl ⟨(Nat.le_of_ble_eq_true rfl), (Nat.le_of_ble_eq_true rfl)⟩ rfl (Nat.le_of_ble_eq_true rfl) dL_law_609 rfl ?_
  refine cv_aload_n (i := 2) (q := 613) 2 C dL_law_612 rfl rfl rfl ?_
  refine lq_6 (n := 0) (As := []) (st := [.int r]) (q := 616) C (KX6_forget (res := (r, M')) qb M e2) gL_law_X6_forget rfl ⟨rfl, rfl⟩ (by decide +kernel) rfl ⟨(Nat.le_of_ble_eq_true rfl), (Nat.le_of_ble_eq_true rfl)⟩ rfl (Nat.le_of_ble_eq_true rfl) dL_law_613 rfl ?_
  exact cv_icmp_eq (tgt := 760) (q := 619) C dL_law_616 (by decide) rfl (fun _ => k S' M' (Inv_mono hJ (by omega))) (fun h => absurd rfl h)
set_option maxHeartbeats 4000000 in
set_option maxRecDepth 100000 in
theorem lq_sorts (C : lq_C p s m c b σ D cy) (X : lq_X s b L xs) (hi : 0 ≤ i ∧ i + 4 ≤ L) (hn : 0 ≤ n ∧ n ≤ 9000) (hI : Inv n S M) (k : ∀ S' M', Inv (n + 9) S' M' → cv_V p l e room_1 s m #[Value.ref b] below meth c 4 D (lq_A s) Q 64 4242 (wX5 qa cy S' ++ wX6 qb cy M') 760 (lq_lv i qa qb b) []) : cv_V p l e room_1 s m #[Value.ref b] below meth c 4 D (lq_A s) Q 64 4242 (wX5 qa cy S ++ wX6 qb cy M) 621 (lq_lv i qa qb b) [] := by
  obtain ⟨r, e1, e2⟩ := B_sorts ⟨hn.1, by omega⟩ hI (xs (ii i + ii 1).toNatClampNeg) (xs (ii i + ii 2).toNatClampNeg)
  refine cv_aload_n (i := 1) (q := 622) 1 C dL_law_621 rfl rfl rfl ?_
  refine lq_rd (q := 627) 1 (by omega) C X hi dL_law_622 dL_law_623 dL_law_624 dL_law_625 dL_law_626 rfl ?_
  refine lq_rd (q := 632) 2 (by omega) C X hi dL_law_627 dL_law_628 dL_law_629 dL_law_630 dL_law_631 rfl ?_
  refine lq_5 (n := 2) (As := [.int (xs (ii i + ii 1).toNatClampNeg), .int (xs (ii i + ii 2).toNatClampNeg)]) (st := []) (q := 635) C (KX5_sorts (res := r) qa S (xs (ii i + ii 1).toNatClampNeg) (xs (ii i + ii 2).toNatClampNeg) e1) gL_law_X5_sorts rfl ⟨rfl, rfl⟩ (by decide +kernel) rfl ⟨(Nat.le_of_ble_eq_true rfl), (Nat.le_of_ble_eq_true rfl)⟩ rfl (Nat.le_of_ble_eq_true rfl) dL_law_632 rfl ?_
  refine cv_aload_n (i := 2) (q := 636) 2 C dL_law_635 rfl rfl rfl ?_
  refine lq_rd (q := 641) 1 (by omega) C X hi dL_law_636 dL_law_637 dL_law_638 dL_law_639 dL_law_640 rfl ?_
  refine lq_rd (q := 646) 2 (by omega) C X hi dL_law_641 dL_law_642 dL_law_643 dL_law_644 dL_law_645 rfl ?_
  refine lq_6 (n := 2) (As := [.int (xs (ii i + ii 1).toNatClampNeg), .int (xs (ii i + ii 2).toNatClampNeg)]) (st := [.int r]) (q := 649) C (KX6_sorts (res := r) qb M (xs (ii i + ii 1).toNatClampNeg) (xs (ii i + ii 2).toNatClampNeg) e2) gL_law_X6_sorts rfl ⟨rfl, rfl⟩ (by decide +kernel) rfl ⟨(Nat.le_of_ble_eq_true rfl), (Nat.le_of_ble_eq_true rfl)⟩ rfl (Nat.le_of_ble_eq_true rfl) dL_law_646 rfl ?_
  exact cv_icmp_eq (tgt := 760) (q := 652) C dL_law_649 (by decide) rfl (fun _ => k S M (Inv_mono hI (by omega))) (fun h => absurd rfl h)
set_option maxHeartbeats 4000000 in
set_option maxRecDepth 100000 in
theorem lq_drawn (C : lq_C p s m c b σ D cy) (X : lq_X s b L xs) (hi : 0 ≤ i ∧ i + 4 ≤ L) (hn : 0 ≤ n ∧ n ≤ 9000) (hI : Inv n S M) (k : ∀ S' M', Inv (n + 9) S' M' → cv_V p l e room_1 s m #[Value.ref b] below meth c 4 D (lq_A s) Q 64 4242 (wX5 qa cy S' ++ wX6 qb cy M') 760 (lq_lv i qa qb b) []) : cv_V p l e room_1 s m #[Value.ref b] below meth c 4 D (lq_A s) Q 64 4242 (wX5 qa cy S ++ wX6 qb cy M) 654 (lq_lv i qa qb b) [] := by
  obtain ⟨r, S', M', e1, e2, hJ⟩ := B_drawn ⟨hn.1, by omega⟩ hI (xs (ii i + ii 1).toNatClampNeg) (xs (ii i + ii 2).toNatClampNeg) (xs (ii i + ii 3).toNatClampNeg)
  refine cv_aload_n (i := 1) (q := 655) 1 C dL_law_654 rfl rfl rfl ?_
  refine lq_rd (q := 660) 1 (by omega) C X hi dL_law_655 dL_law_656 dL_law_657 dL_law_658 dL_law_659 rfl ?_
  refine lq_rd (q := 665) 2 (by omega) C X hi dL_law_660 dL_law_661 dL_law_662 dL_law_663 dL_law_664 rfl ?_
  refine lq_rd (q := 670) 3 (by omega) C X hi dL_law_665 dL_law_666 dL_law_667 dL_law_668 dL_law_669 rfl ?_
  refine lq_5 (n := 3) (As := [.int (xs (ii i + ii 1).toNatClampNeg), .int (xs (ii i + ii 2).toNatClampNeg), .int (xs (ii i + ii 3).toNatClampNeg)]) (st := []) (q := 673) C (KX5_drawn (res := (r, S')) qa S (xs (ii i + ii 1).toNatClampNeg) (xs (ii i + ii 2).toNatClampNeg) (xs (ii i + ii 3).toNatClampNeg) e1) gL_law_X5_drawn rfl ⟨rfl, rfl⟩ (by decide +kernel) rfl ⟨(Nat.le_of_ble_eq_true rfl), (Nat.le_of_ble_eq_true rfl)⟩ rfl (Nat.le_of_ble_eq_true rfl) dL_law_670 rfl ?_
  refine cv_aload_n (i := 2) (q := 674) 2 C dL_law_673 rfl rfl rfl ?_
  refine lq_rd (q := 679) 1 (by omega) C X hi dL_law_674 dL_law_675 dL_law_676 dL_law_677 dL_law_678 rfl ?_
  refine lq_rd (q := 684) 2 (by omega) C X hi dL_law_679 dL_law_680 dL_law_681 dL_law_682 dL_law_683 rfl ?_
  refine lq_rd (q := 689) 3 (by omega) C X hi dL_law_684 dL_law_685 dL_law_686 dL_law_687 dL_law_688 rfl ?_
  refine lq_6 (n := 3) (As := [.int (xs (ii i + ii 1).toNatClampNeg), .int (xs (ii i + ii 2).toNatClampNeg), .int (xs (ii i + ii 3).toNatClampNeg)]) (st := [.int r]) (q := 692) C (KX6_drawn (res := (r, M')) qb M (xs (ii i + ii 1).toNatClampNeg) (xs (ii i + ii 2).toNatClampNeg) (xs (ii i + ii 3).toNatClampNeg) e2) gL_law_X6_drawn rfl ⟨rfl, rfl⟩ (by decide +kernel) rfl ⟨(Nat.le_of_ble_eq_true rfl), (Nat.le_of_ble_eq_true rfl)⟩ rfl (Nat.le_of_ble_eq_true rfl) dL_law_689 rfl ?_
  exact cv_icmp_eq (tgt := 760) (q := 695) C dL_law_692 (by decide) rfl (fun _ => k S' M' (Inv_mono hJ (by omega))) (fun h => absurd rfl h)
set_option maxHeartbeats 4000000 in
set_option maxRecDepth 100000 in
theorem lq_image (C : lq_C p s m c b σ D cy) (X : lq_X s b L xs) (hi : 0 ≤ i ∧ i + 4 ≤ L) (hn : 0 ≤ n ∧ n ≤ 9000) (hI : Inv n S M) (k : ∀ S' M', Inv (n + 9) S' M' → cv_V p l e room_1 s m #[Value.ref b] below meth c 4 D (lq_A s) Q 64 4242 (wX5 qa cy S' ++ wX6 qb cy M') 760 (lq_lv i qa qb b) []) : cv_V p l e room_1 s m #[Value.ref b] below meth c 4 D (lq_A s) Q 64 4242 (wX5 qa cy S ++ wX6 qb cy M) 697 (lq_lv i qa qb b) [] := by
  obtain ⟨r, S', M', e1, e2, hJ⟩ := B_image ⟨hn.1, by omega⟩ hI
  refine cv_aload_n (i := 1) (q := 698) 1 C dL_law_697 rfl rfl rfl ?_
  refine lq_5 (n := 0) (As := []) (st := []) (q := 701) C (KX5_image (res := (r, S')) qa S e1) gL_law_X5_image rfl ⟨rfl, rfl⟩ (by decide +kernel) rfl ⟨(Nat.le_of_ble_eq_true rfl), (Nat.le_of_ble_eq_true rfl)⟩ rfl (Nat.le_of_ble_eq_true rfl) dL_law_698 rfl ?_
  refine cv_aload_n (i := 2) (q := 702) 2 C dL_law_701 rfl rfl rfl ?_
  refine lq_6 (n := 0) (As := []) (st := [.int r]) (q := 705) C (KX6_image (res := (r, M')) qb M e2) gL_law_X6_image rfl ⟨rfl, rfl⟩ (by decide +kernel) rfl ⟨(Nat.le_of_ble_eq_true rfl), (Nat.le_of_ble_eq_true rfl)⟩ rfl (Nat.le_of_ble_eq_true rfl) dL_law_702 rfl ?_
  exact cv_icmp_eq (tgt := 760) (q := 708) C dL_law_705 (by decide) rfl (fun _ => k S' M' (Inv_mono hJ (by omega))) (fun h => absurd rfl h)
set_option maxHeartbeats 4000000 in
set_option maxRecDepth 100000 in
theorem lq_restore (C : lq_C p s m c b σ D cy) (X : lq_X s b L xs) (hi : 0 ≤ i ∧ i + 4 ≤ L) (hn : 0 ≤ n ∧ n ≤ 9000) (hI : Inv n S M) (k : ∀ S' M', Inv (n + 9) S' M' → cv_V p l e room_1 s m #[Value.ref b] below meth c 4 D (lq_A s) Q 64 4242 (wX5 qa cy S' ++ wX6 qb cy M') 760 (lq_lv i qa qb b) []) : cv_V p l e room_1 s m #[Value.ref b] below meth c 4 D (lq_A s) Q 64 4242 (wX5 qa cy S ++ wX6 qb cy M) 710 (lq_lv i qa qb b) [] := by
  obtain ⟨r, S', M', e1, e2, hJ⟩ := B_restore ⟨hn.1, by omega⟩ hI
  refine cv_aload_n (i := 1) (q := 711) 1 C dL_law_710 rfl rfl rfl ?_
  refine lq_5 (n := 0) (As := []) (st := []) (q := 714) C (KX5_restore (res := (r, S')) qa S e1) gL_law_X5_restore rfl ⟨rfl, rfl⟩ (by decide +kernel) rfl ⟨(Nat.le_of_ble_eq_true rfl), (Nat.le_of_ble_eq_true rfl)⟩ rfl (Nat.le_of_ble_eq_true rfl) dL_law_711 rfl ?_
  refine cv_aload_n (i := 2) (q := 715) 2 C dL_law_714 rfl rfl rfl ?_
  refine lq_6 (n := 0) (As := []) (st := [.int r]) (q := 718) C (KX6_restore (res := (r, M')) qb M e2) gL_law_X6_restore rfl ⟨rfl, rfl⟩ (by decide +kernel) rfl ⟨(Nat.le_of_ble_eq_true rfl), (Nat.le_of_ble_eq_true rfl)⟩ rfl (Nat.le_of_ble_eq_true rfl) dL_law_715 rfl ?_
  exact cv_icmp_eq (tgt := 760) (q := 721) C dL_law_718 (by decide) rfl (fun _ => k S' M' (Inv_mono hJ (by omega))) (fun h => absurd rfl h)
set_option maxHeartbeats 4000000 in
set_option maxRecDepth 100000 in
theorem lq_count (C : lq_C p s m c b σ D cy) (X : lq_X s b L xs) (hi : 0 ≤ i ∧ i + 4 ≤ L) (hn : 0 ≤ n ∧ n ≤ 9000) (hI : Inv n S M) (k : ∀ S' M', Inv (n + 9) S' M' → cv_V p l e room_1 s m #[Value.ref b] below meth c 4 D (lq_A s) Q 64 4242 (wX5 qa cy S' ++ wX6 qb cy M') 760 (lq_lv i qa qb b) []) : cv_V p l e room_1 s m #[Value.ref b] below meth c 4 D (lq_A s) Q 64 4242 (wX5 qa cy S ++ wX6 qb cy M) 723 (lq_lv i qa qb b) [] := by
  obtain ⟨r, e1, e2⟩ := B_count ⟨hn.1, by omega⟩ hI (xs (ii i + ii 1).toNatClampNeg)
  have e2 : fX6_count M (xs (ii i + ii 1).toNatClampNeg) = some r := by unfold fX6_count; rw [e2]; rfl
  refine cv_aload_n (i := 1) (q := 724) 1 C dL_law_723 rfl rfl rfl ?_
  refine lq_rd (q := 729) 1 (by omega) C X hi dL_law_724 dL_law_725 dL_law_726 dL_law_727 dL_law_728 rfl ?_
  refine lq_5 (n := 1) (As := [.int (xs (ii i + ii 1).toNatClampNeg)]) (st := []) (q := 732) C (KX5_count (res := r) qa S (xs (ii i + ii 1).toNatClampNeg) e1) gL_law_X5_count rfl ⟨rfl, rfl⟩ (by decide +kernel) rfl ⟨(Nat.le_of_ble_eq_true rfl), (Nat.le_of_ble_eq_true rfl)⟩ rfl (Nat.le_of_ble_eq_true rfl) dL_law_729 rfl ?_
  refine cv_aload_n (i := 2) (q := 733) 2 C dL_law_732 rfl rfl rfl ?_
  refine lq_rd (q := 738) 1 (by omega) C X hi dL_law_733 dL_law_734 dL_law_735 dL_law_736 dL_law_737 rfl ?_
  refine lq_6 (n := 1) (As := [.int (xs (ii i + ii 1).toNatClampNeg)]) (st := [.int r]) (q := 741) C (KX6_count (res := r) qb M (xs (ii i + ii 1).toNatClampNeg) e2) gL_law_X6_count rfl ⟨rfl, rfl⟩ (by decide +kernel) rfl ⟨(Nat.le_of_ble_eq_true rfl), (Nat.le_of_ble_eq_true rfl)⟩ rfl (Nat.le_of_ble_eq_true rfl) dL_law_738 rfl ?_
  exact cv_icmp_eq (tgt := 760) (q := 744) C dL_law_741 (by decide) rfl (fun _ => k S M (Inv_mono hI (by omega))) (fun h => absurd rfl h)
set_option maxHeartbeats 4000000 in
set_option maxRecDepth 100000 in
theorem lq_digest (C : lq_C p s m c b σ D cy) (X : lq_X s b L xs) (hi : 0 ≤ i ∧ i + 4 ≤ L) (hn : 0 ≤ n ∧ n ≤ 9000) (hI : Inv n S M) (k : ∀ S' M', Inv (n + 9) S' M' → cv_V p l e room_1 s m #[Value.ref b] below meth c 4 D (lq_A s) Q 64 4242 (wX5 qa cy S' ++ wX6 qb cy M') 760 (lq_lv i qa qb b) []) : cv_V p l e room_1 s m #[Value.ref b] below meth c 4 D (lq_A s) Q 64 4242 (wX5 qa cy S ++ wX6 qb cy M) 746 (lq_lv i qa qb b) [] := by
  obtain ⟨r, S', M', e1, e2, hJ⟩ := B_digest ⟨hn.1, by omega⟩ hI
  refine cv_aload_n (i := 1) (q := 747) 1 C dL_law_746 rfl rfl rfl ?_
  refine lq_5 (n := 0) (As := []) (st := []) (q := 750) C (KX5_digest (res := (r, S')) qa S e1) gL_law_X5_digest rfl ⟨rfl, rfl⟩ (by decide +kernel) rfl ⟨(Nat.le_of_ble_eq_true rfl), (Nat.le_of_ble_eq_true rfl)⟩ rfl (Nat.le_of_ble_eq_true rfl) dL_law_747 rfl ?_
  refine cv_aload_n (i := 2) (q := 751) 2 C dL_law_750 rfl rfl rfl ?_
  refine lq_6 (n := 0) (As := []) (st := [.long r]) (q := 754) C (KX6_digest (res := (r, M')) qb M e2) gL_law_X6_digest rfl ⟨rfl, rfl⟩ (by decide +kernel) rfl ⟨(Nat.le_of_ble_eq_true rfl), (Nat.le_of_ble_eq_true rfl)⟩ rfl (Nat.le_of_ble_eq_true rfl) dL_law_751 rfl ?_
  refine cv_lcmp (q := 755) C dL_law_754 rfl ?_
  exact cv_if_eq (tgt := 760) (q := 758) C dL_law_755 (by decide) rfl (fun _ => k S' M' (Inv_mono hJ (by omega))) (fun h => absurd ((lg_cmp_eq r r).mpr rfl) h)
end LQC
