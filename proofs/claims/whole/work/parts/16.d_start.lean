/-! both, as they are made -/
theorem rd_nil (k : Int) : rd (fun _ => (0 : Int32)) k = 0 := by
  show ((0 : Int32)).toInt = 0
  decide
theorem kv_nil {hi : Int} (h : 0 ≤ hi) : kv (fun _ => 0) (fun _ => 0) hi := fun k _ _ => ⟨rfl, by rw [rd_nil]; omega, by rw [rd_nil]; exact h⟩
theorem ct_0 : ct IX4 lf := ⟨tr_wf_lf, bst_lf _ _, by rw [sz_lf]; omega, rfl, rp_lf _ _, fun k _ _ => by rw [at_lf, sz_lf]; exact rd_nil k, rfl⟩
theorem rc_0 : rc IX6 0 lf := by
  refine ⟨tr_wf_lf, bst_lf _ _, by rw [sz_lf]; omega, fun _ => 0, fun _ => 0, fun _ => 0, fun _ => 0, ⟨fun k _ _ => rd_nil _, fun k _ _ => rd_nil _, fun k _ _ => rd_nil _, fun k _ _ => rd_nil _, ?_, rd_nil _⟩, rp_lf _ _, ra_lf _ _, fun k _ _ => by rw [ks_lf, if_neg (List.not_mem_nil)]⟩
  show rd (upd (fun _ => 0) (ii 0).toNatClampNeg (ii (-1))) 0 = -1
  exact rd_up1 _ (by omega) (by omega) (by omega) (by omega)
theorem sm_0 : sm lf (ts []) := ⟨fun k => by
  show false = decide (k ∈ ks lf)
  rw [ks_lf]
  exact (decide_eq_false List.not_mem_nil).symm, rfl⟩
theorem sr_0 : sr 0 false IX3 IX6 := by
  refine ⟨lf, 0, 0, 0, 0, 0, 0, 0, 0, [], 0, ⟨ct_0, rc_0, ⟨rfl, rfl, rfl, rfl, rfl⟩, ⟨rfl, rfl, rfl⟩, ⟨rfl, rfl⟩, by omega⟩, ⟨fun h => (by cases h), fun _ => ⟨rfl, rfl, rfl, rfl⟩⟩, ⟨rfl, rfl⟩, ⟨kv_nil (by omega), kv_nil (by omega)⟩, ⟨rfl, rfl, rfl, rfl, by omega, by omega, by omega⟩, ⟨rfl, rfl, ⟨by decide, fun i hi => absurd hi (Nat.not_lt_zero i)⟩, fun _ => sm_0⟩, ⟨rfl, rfl, ⟨by omega, fun i hi => absurd hi (Nat.not_lt_zero i)⟩⟩⟩
theorem Inv_0 : Inv 0 IX5 IX6 :=
  ⟨false, false, 0, 0, -1, ⟨rfl, rfl⟩, ⟨rfl, rfl, by omega, by omega, fun j h1 h2 => absurd h2 (by omega)⟩, ⟨rfl, rfl, rfl, by omega, by omega, by omega, by omega, ⟨fun h => (by cases h), fun h => absurd h (by omega)⟩, fun h => (by cases h)⟩, sr_0, fun h => (by cases h)⟩
