/-! the law: its loop -/
section LQC
variable {p : Program} {l : Launch} {e : Env} {s : State} {m : MethodId} {below : List Frame} {meth : Method} {c : Code} {σ : Nat → Nat} {D : va_G} {cy : ClassId} {b L : Nat} {xs : Nat → Int32} {qa qb : Nat → Nat} {Q : State → Prop} {i n : Int} {S : SX5} {M : SX6}
theorem lq_ofNat (h : L ≤ 2048) : Int32.ofNat L = ii L := Int32.toInt_inj.mp (by rw [ii_toInt (by omega) (by omega)]; exact nI_toInt (by omega))
set_option maxHeartbeats 4000000 in
set_option maxRecDepth 100000 in
/-- one run through the loop, and the end -/
theorem lq_step (C : lq_C p s m c b σ D cy) (X : lq_X s b L xs) (hi : 0 ≤ i ∧ i ≤ L) (hn : 0 ≤ n ∧ n ≤ 9000) (hI : Inv n S M) (kend : cv_V p l e room_1 s m #[Value.ref b] below meth c 4 D (lq_A s) Q 64 4242 (wX5 qa cy S ++ wX6 qb cy M) 766 (lq_lv i qa qb b) []) (k : i + 4 ≤ L → ∀ S' M', Inv (n + 9) S' M' → cv_V p l e room_1 s m #[Value.ref b] below meth c 4 D (lq_A s) Q 64 4242 (wX5 qa cy S' ++ wX6 qb cy M') 18 (lq_lv (i + 4) qa qb b) []) : cv_V p l e room_1 s m #[Value.ref b] below meth c 4 D (lq_A s) Q 64 4242 (wX5 qa cy S ++ wX6 qb cy M) 18 (lq_lv i qa qb b) [] := by
  have hL := X.2.2
  refine cv_iload_n (i := 3) (q := 19) 3 C dL_law_18 rfl rfl rfl ?_
  refine cv_aload_n (i := 0) (q := 20) 0 C dL_law_19 rfl rfl rfl ?_
  refine cv_slen (q := 21) C X.1 X.2.1 (lq_out X) dL_law_20 rfl ?_
  refine cv_iconst (v := ii 4) (q := 22) C dL_law_21 rfl rfl ?_
  refine cv_isub (q := 23) C dL_law_22 rfl ?_
  rw [lq_ofNat hL, ii_sub]
  refine cv_icmp_gt (tgt := 766) (q := 26) C dL_law_23 (by decide) rfl (fun _ => kend) (fun h => ?_)
  have hi4 : i + 4 ≤ L := by
    rw [ii_lt (by omega) (by omega) (by omega) (by omega)] at h
    omega
  have kk : ∀ S' M', Inv (n + 9) S' M' → cv_V p l e room_1 s m #[Value.ref b] below meth c 4 D (lq_A s) Q 64 4242 (wX5 qa cy S' ++ wX6 qb cy M') 760 (lq_lv i qa qb b) [] := fun S' M' hJ => by
    refine cv_iinc (v := ii (i + 4)) (lv' := [(3, .int (ii (i + 4))), (0, .ref b), (1, .ref (qa 0)), (2, .ref (qb 0))]) (q := 763) 3 C dL_law_760 rfl (ii_add i 4) (by decide) rfl rfl ?_
    refine cv_goto (tgt := 18) C dL_law_763 (by decide) ?_
    exact cv_sub (lv' := lq_lv (i + 4) qa qb b) [1, 2, 3, 0] rfl (k hi4 S' M' hJ)
  refine cv_aload_n (i := 0) (q := 27) 0 C dL_law_26 rfl rfl rfl ?_
  refine cv_iload_n (i := 3) (q := 28) 3 C dL_law_27 rfl rfl rfl ?_
  refine cv_sld (q := 29) C X.1 X.2.1 (lq_out X) (lq_in hi.1 (by omega) X) dL_law_28 rfl ?_
  refine cv_bipush (v := 31) (q := 31) C dL_law_29 (by decide) rfl ?_
  refine cv_iand (q := 32) C dL_law_31 rfl ?_
  rcases lq_tab (xs (ii i).toNatClampNeg &&& 31) with h | h | h | h | h | h | h | h | h | h | h | h | h | h | h | h | h | h | h | h | h | h | h | h | h | h
  · exact cv_tin 0 C dL_law_32 h (by decide) (by decide) rfl (tgt := 148) (by decide) (lq_letter C X ⟨hi.1, hi4⟩ hn hI kk)
  · exact cv_tin 1 C dL_law_32 h (by decide) (by decide) rfl (tgt := 171) (by decide) (lq_blank C X ⟨hi.1, hi4⟩ hn hI kk)
  · exact cv_tin 2 C dL_law_32 h (by decide) (by decide) rfl (tgt := 184) (by decide) (lq_fault C X ⟨hi.1, hi4⟩ hn hI kk)
  · exact cv_tin 3 C dL_law_32 h (by decide) (by decide) rfl (tgt := 197) (by decide) (lq_shelf C X ⟨hi.1, hi4⟩ hn hI kk)
  · exact cv_tin 4 C dL_law_32 h (by decide) (by decide) rfl (tgt := 210) (by decide) (lq_entry C X ⟨hi.1, hi4⟩ hn hI kk)
  · exact cv_tin 5 C dL_law_32 h (by decide) (by decide) rfl (tgt := 243) (by decide) (lq_as C X ⟨hi.1, hi4⟩ hn hI kk)
  · exact cv_tin 6 C dL_law_32 h (by decide) (by decide) rfl (tgt := 276) (by decide) (lq_at C X ⟨hi.1, hi4⟩ hn hI kk)
  · exact cv_tin 7 C dL_law_32 h (by decide) (by decide) rfl (tgt := 299) (by decide) (lq_next C X ⟨hi.1, hi4⟩ hn hI kk)
  · exact cv_tin 8 C dL_law_32 h (by decide) (by decide) rfl (tgt := 322) (by decide) (lq_put C X ⟨hi.1, hi4⟩ hn hI kk)
  · exact cv_tin 9 C dL_law_32 h (by decide) (by decide) rfl (tgt := 365) (by decide) (lq_take C X ⟨hi.1, hi4⟩ hn hI kk)
  · exact cv_tin 10 C dL_law_32 h (by decide) (by decide) rfl (tgt := 388) (by decide) (lq_tell C X ⟨hi.1, hi4⟩ hn hI kk)
  · exact cv_tin 11 C dL_law_32 h (by decide) (by decide) rfl (tgt := 411) (by decide) (lq_flatten C X ⟨hi.1, hi4⟩ hn hI kk)
  · exact cv_tin 12 C dL_law_32 h (by decide) (by decide) rfl (tgt := 424) (by decide) (lq_ledger C X ⟨hi.1, hi4⟩ hn hI kk)
  · exact cv_tin 13 C dL_law_32 h (by decide) (by decide) rfl (tgt := 447) (by decide) (lq_would C X ⟨hi.1, hi4⟩ hn hI kk)
  · exact cv_tin 14 C dL_law_32 h (by decide) (by decide) rfl (tgt := 470) (by decide) (lq_dear C X ⟨hi.1, hi4⟩ hn hI kk)
  · exact cv_tin 15 C dL_law_32 h (by decide) (by decide) rfl (tgt := 493) (by decide) (lq_replay C X ⟨hi.1, hi4⟩ hn hI kk)
  · exact cv_tin 16 C dL_law_32 h (by decide) (by decide) rfl (tgt := 536) (by decide) (lq_ahead C X ⟨hi.1, hi4⟩ hn hI kk)
  · exact cv_tin 17 C dL_law_32 h (by decide) (by decide) rfl (tgt := 549) (by decide) (lq_see C X ⟨hi.1, hi4⟩ hn hI kk)
  · exact cv_tin 18 C dL_law_32 h (by decide) (by decide) rfl (tgt := 608) (by decide) (lq_forget C X ⟨hi.1, hi4⟩ hn hI kk)
  · exact cv_tin 19 C dL_law_32 h (by decide) (by decide) rfl (tgt := 621) (by decide) (lq_sorts C X ⟨hi.1, hi4⟩ hn hI kk)
  · exact cv_tin 20 C dL_law_32 h (by decide) (by decide) rfl (tgt := 654) (by decide) (lq_drawn C X ⟨hi.1, hi4⟩ hn hI kk)
  · exact cv_tin 21 C dL_law_32 h (by decide) (by decide) rfl (tgt := 697) (by decide) (lq_image C X ⟨hi.1, hi4⟩ hn hI kk)
  · exact cv_tin 22 C dL_law_32 h (by decide) (by decide) rfl (tgt := 710) (by decide) (lq_restore C X ⟨hi.1, hi4⟩ hn hI kk)
  · exact cv_tin 23 C dL_law_32 h (by decide) (by decide) rfl (tgt := 723) (by decide) (lq_count C X ⟨hi.1, hi4⟩ hn hI kk)
  · exact cv_tin 24 C dL_law_32 h (by decide) (by decide) rfl (tgt := 746) (by decide) (lq_digest C X ⟨hi.1, hi4⟩ hn hI kk)
  · exact cv_tout C dL_law_32 h (tgt := 760) (by decide) (kk S M (Inv_mono hI (by omega)))
/-- the loop: every run of calls -/
theorem lq_loop (C : lq_C p s m c b σ D cy) (X : lq_X s b L xs) (kend : ∀ i S M, cv_V p l e room_1 s m #[Value.ref b] below meth c 4 D (lq_A s) Q 64 4242 (wX5 qa cy S ++ wX6 qb cy M) 766 (lq_lv i qa qb b) []) : ∀ (f : Nat) (i n : Int) (S : SX5) (M : SX6), 0 ≤ i → i ≤ L → L - i < f → 0 ≤ n → 4 * n ≤ 9 * i → Inv n S M → cv_V p l e room_1 s m #[Value.ref b] below meth c 4 D (lq_A s) Q 64 4242 (wX5 qa cy S ++ wX6 qb cy M) 18 (lq_lv i qa qb b) []
  | 0, i, n, S, M, h1, h2, h3, h4, h5, hI => absurd h3 (by omega)
  | f + 1, i, n, S, M, h1, h2, h3, h4, h5, hI => lq_step C X ⟨h1, h2⟩ ⟨h4, by have := X.2.2; omega⟩ hI (kend i S M) (fun h6 S' M' hJ => lq_loop C X kend f (i + 4) (n + 9) S' M' (by omega) h6 (by omega) (by omega) (by omega) hJ)
end LQC
