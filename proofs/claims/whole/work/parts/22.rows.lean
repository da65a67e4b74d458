theorem c_Rows_at {m : Nat} {h : ab_H} (row k : Int32) : ab_D Y_Rows_at [.int row, .int k] m h (some (.int (row >>> ((nI 3 * k) &&& 31) &&& nI 7))) m (h) := by
  refine ab_C.of (L := [some (.int row), some (.int k)]) rfl rfl (Nat.le_of_ble_eq_true rfl) (fun l => ?_)
  refine aw_iload_n d_Rows_at_0 rfl ?_
  refine aw_iconst (v := nI 3) d_Rows_at_1 (by decide) ?_
  refine aw_iload_n d_Rows_at_2 rfl ?_
  refine aw_imul d_Rows_at_3 ?_
  refine aw_ishr d_Rows_at_4 ?_
  refine aw_bipush (v := nI 7) d_Rows_at_5 (by decide) ?_
  refine aw_iand d_Rows_at_7 ?_
  refine aw_ireturn d_Rows_at_8 rfl rfl ?_
  exact ⟨rfl, rfl, rfl⟩
theorem c_Rows_with {m : Nat} {h : ab_H} (row k v : Int32) : ab_D Y_Rows_with [.int row, .int k, .int v] m h (some (.int ((row &&& ((nI 7 <<< ((nI 3 * k) &&& 31)) ^^^ (-1))) ||| v <<< ((nI 3 * k) &&& 31)))) m (h) := by
  refine ab_C.of (L := [some (.int row), some (.int k), some (.int v)]) rfl rfl (Nat.le_of_ble_eq_true rfl) (fun l => ?_)
  refine aw_iload_n d_Rows_with_0 rfl ?_
  refine aw_bipush (v := nI 7) d_Rows_with_1 (by decide) ?_
  refine aw_iconst (v := nI 3) d_Rows_with_3 (by decide) ?_
  refine aw_iload_n d_Rows_with_4 rfl ?_
  refine aw_imul d_Rows_with_5 ?_
  refine aw_ishl d_Rows_with_6 ?_
  refine aw_iconst (v := (-1)) d_Rows_with_7 (by decide) ?_
  refine aw_ixor d_Rows_with_8 ?_
  refine aw_iand d_Rows_with_9 ?_
  refine aw_iload_n d_Rows_with_10 rfl ?_
  refine aw_iconst (v := nI 3) d_Rows_with_11 (by decide) ?_
  refine aw_iload_n d_Rows_with_12 rfl ?_
  refine aw_imul d_Rows_with_13 ?_
  refine aw_ishl d_Rows_with_14 ?_
  refine aw_ior d_Rows_with_15 ?_
  refine aw_ireturn d_Rows_with_16 rfl rfl ?_
  exact ⟨rfl, rfl, rfl⟩
