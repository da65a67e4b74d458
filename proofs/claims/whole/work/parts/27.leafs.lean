theorem c_Rows_at {m : Nat} {h : ab_H} (row k : Int32) : ab_D Y_Rows_at [.int row, .int k] m h (some (.int (row >>> ((nI 3 * k) &&& 31) &&& nI 7))) m (h) := by
  refine ab_C.of (L := [some (.int row), some (.int k)]) rfl rfl (Nat.le_of_ble_eq_true rfl) (fun l => ?_)
  refine aw_iload_n d_Rows_at_0 rfl ?_
  refine aw_iconst (v := nI 3) d_Rows_at_1 (by decide) ?_
  refine aw_iload_n d_Rows_at_2 rfl ?_
  refine aw_imul d_Rows_at_3 ?_
  refine aw_ishr d_Rows_at_4 ?_
  refine aw_bipush (v := nI 7) d_Rows_at_5 (by decide) ?_
  refine aw_iand d_Rows_at_7 ?_
  refine aw_ireturn d_Rows_at_8 rfl rfl ?_
  exact ⟨rfl, rfl, rfl⟩
theorem c_Rows_with {m : Nat} {h : ab_H} (row k v : Int32) : ab_D Y_Rows_with [.int row, .int k, .int v] m h (some (.int ((row &&& ((nI 7 <<< ((nI 3 * k) &&& 31)) ^^^ (-1))) ||| v <<< ((nI 3 * k) &&& 31)))) m (h) := by
  refine ab_C.of (L := [some (.int row), some (.int k), some (.int v)]) rfl rfl (Nat.le_of_ble_eq_true rfl) (fun l => ?_)
  refine aw_iload_n d_Rows_with_0 rfl ?_
  refine aw_bipush (v := nI 7) d_Rows_with_1 (by decide) ?_
  refine aw_iconst (v := nI 3) d_Rows_with_3 (by decide) ?_
  refine aw_iload_n d_Rows_with_4 rfl ?_
  refine aw_imul d_Rows_with_5 ?_
  refine aw_ishl d_Rows_with_6 ?_
  refine aw_iconst (v := (-1)) d_Rows_with_7 (by decide) ?_
  refine aw_ixor d_Rows_with_8 ?_
  refine aw_iand d_Rows_with_9 ?_
  refine aw_iload_n d_Rows_with_10 rfl ?_
  refine aw_iconst (v := nI 3) d_Rows_with_11 (by decide) ?_
  refine aw_iload_n d_Rows_with_12 rfl ?_
  refine aw_imul d_Rows_with_13 ?_
  refine aw_ishl d_Rows_with_14 ?_
  refine aw_ior d_Rows_with_15 ?_
  refine aw_ireturn d_Rows_with_16 rfl rfl ?_
  exact ⟨rfl, rfl, rfl⟩
theorem c_Coat_isPlace {m : Nat} {h : ab_H} (x y : Int32) : ab_D Y_Coat_isPlace [.int x, .int y] m h (some (.int (ab_bl ((!decide (x < 0) && !decide (nI 20 ≤ x)) && (!decide (y < 0) && !decide (nI 20 ≤ y)))))) m (h) := by
  refine ab_C.of (L := [some (.int x), some (.int y)]) rfl rfl (Nat.le_of_ble_eq_true rfl) (fun l => ?_)
  refine aw_iload_n d_Coat_isPlace_0 rfl ?_
  refine aw_if_lt (tgt := 24) d_Coat_isPlace_1 (by decide) (fun c1 => ?_) (fun c1 => ?_)
  · refine aw_iconst (v := nI 0) d_Coat_isPlace_24 (by decide) ?_
    refine aw_ireturn d_Coat_isPlace_25 rfl (by decide) ?_
    exact ⟨by simp [ab_bl, *], rfl, rfl⟩
  · refine aw_iload_n d_Coat_isPlace_4 rfl ?_
    refine aw_bipush (v := nI 20) d_Coat_isPlace_5 (by decide) ?_
    refine aw_icmp_ge (tgt := 24) d_Coat_isPlace_7 (by decide) (fun c7 => ?_) (fun c7 => ?_)
    · refine aw_iconst (v := nI 0) d_Coat_isPlace_24 (by decide) ?_
      refine aw_ireturn d_Coat_isPlace_25 rfl (by decide) ?_
      exact ⟨by simp [ab_bl, *], rfl, rfl⟩
    · refine aw_iload_n d_Coat_isPlace_10 rfl ?_
      refine aw_if_lt (tgt := 24) d_Coat_isPlace_11 (by decide) (fun c11 => ?_) (fun c11 => ?_)
      · refine aw_iconst (v := nI 0) d_Coat_isPlace_24 (by decide) ?_
        refine aw_ireturn d_Coat_isPlace_25 rfl (by decide) ?_
        exact ⟨by simp [ab_bl, *], rfl, rfl⟩
      · refine aw_iload_n d_Coat_isPlace_14 rfl ?_
        refine aw_bipush (v := nI 20) d_Coat_isPlace_15 (by decide) ?_
        refine aw_icmp_ge (tgt := 24) d_Coat_isPlace_17 (by decide) (fun c17 => ?_) (fun c17 => ?_)
        · refine aw_iconst (v := nI 0) d_Coat_isPlace_24 (by decide) ?_
          refine aw_ireturn d_Coat_isPlace_25 rfl (by decide) ?_
          exact ⟨by simp [ab_bl, *], rfl, rfl⟩
        · refine aw_iconst (v := nI 1) d_Coat_isPlace_20 (by decide) ?_
          refine aw_goto (tgt := 25) d_Coat_isPlace_21 (by decide) ?_
          refine aw_ireturn d_Coat_isPlace_25 rfl (by decide) ?_
          exact ⟨by simp [ab_bl, *], rfl, rfl⟩
theorem c_Coat_isMarks {m : Nat} {h : ab_H} (v : Int32) : ab_D Y_Coat_isMarks [.int v] m h (some (.int (ab_bl (!decide (v < 0) && !decide (nI 64 ≤ v))))) m (h) := by
  refine ab_C.of (L := [some (.int v)]) rfl rfl (Nat.le_of_ble_eq_true rfl) (fun l => ?_)
  refine aw_iload_n d_Coat_isMarks_0 rfl ?_
  refine aw_if_lt (tgt := 14) d_Coat_isMarks_1 (by decide) (fun c1 => ?_) (fun c1 => ?_)
  · refine aw_iconst (v := nI 0) d_Coat_isMarks_14 (by decide) ?_
    refine aw_ireturn d_Coat_isMarks_15 rfl (by decide) ?_
    exact ⟨by simp [ab_bl, *], rfl, rfl⟩
  · refine aw_iload_n d_Coat_isMarks_4 rfl ?_
    refine aw_bipush (v := nI 64) d_Coat_isMarks_5 (by decide) ?_
    refine aw_icmp_ge (tgt := 14) d_Coat_isMarks_7 (by decide) (fun c7 => ?_) (fun c7 => ?_)
    · refine aw_iconst (v := nI 0) d_Coat_isMarks_14 (by decide) ?_
      refine aw_ireturn d_Coat_isMarks_15 rfl (by decide) ?_
      exact ⟨by simp [ab_bl, *], rfl, rfl⟩
    · refine aw_iconst (v := nI 1) d_Coat_isMarks_10 (by decide) ?_
      refine aw_goto (tgt := 15) d_Coat_isMarks_11 (by decide) ?_
      refine aw_ireturn d_Coat_isMarks_15 rfl (by decide) ?_
      exact ⟨by simp [ab_bl, *], rfl, rfl⟩
theorem c_Sheets_isSheet {m : Nat} {h : ab_H} (v : Int32) : ab_D Y_Sheets_isSheet [.int v] m h (some (.int (ab_bl (!decide (v < 0) && !decide (nI 4 ≤ v))))) m (h) := by
  refine ab_C.of (L := [some (.int v)]) rfl rfl (Nat.le_of_ble_eq_true rfl) (fun l => ?_)
  refine aw_iload_n d_Sheets_isSheet_0 rfl ?_
  refine aw_if_lt (tgt := 13) d_Sheets_isSheet_1 (by decide) (fun c1 => ?_) (fun c1 => ?_)
  · refine aw_iconst (v := nI 0) d_Sheets_isSheet_13 (by decide) ?_
    refine aw_ireturn d_Sheets_isSheet_14 rfl (by decide) ?_
    exact ⟨by simp [ab_bl, *], rfl, rfl⟩
  · refine aw_iload_n d_Sheets_isSheet_4 rfl ?_
    refine aw_iconst (v := nI 4) d_Sheets_isSheet_5 (by decide) ?_
    refine aw_icmp_ge (tgt := 13) d_Sheets_isSheet_6 (by decide) (fun c6 => ?_) (fun c6 => ?_)
    · refine aw_iconst (v := nI 0) d_Sheets_isSheet_13 (by decide) ?_
      refine aw_ireturn d_Sheets_isSheet_14 rfl (by decide) ?_
      exact ⟨by simp [ab_bl, *], rfl, rfl⟩
    · refine aw_iconst (v := nI 1) d_Sheets_isSheet_9 (by decide) ?_
      refine aw_goto (tgt := 14) d_Sheets_isSheet_10 (by decide) ?_
      refine aw_ireturn d_Sheets_isSheet_14 rfl (by decide) ?_
      exact ⟨by simp [ab_bl, *], rfl, rfl⟩
theorem c_Sheets_isLane {m : Nat} {h : ab_H} (v : Int32) : ab_D Y_Sheets_isLane [.int v] m h (some (.int (ab_bl (!decide (v < 0) && !decide (nI 3 ≤ v))))) m (h) := by
  refine ab_C.of (L := [some (.int v)]) rfl rfl (Nat.le_of_ble_eq_true rfl) (fun l => ?_)
  refine aw_iload_n d_Sheets_isLane_0 rfl ?_
  refine aw_if_lt (tgt := 13) d_Sheets_isLane_1 (by decide) (fun c1 => ?_) (fun c1 => ?_)
  · refine aw_iconst (v := nI 0) d_Sheets_isLane_13 (by decide) ?_
    refine aw_ireturn d_Sheets_isLane_14 rfl (by decide) ?_
    exact ⟨by simp [ab_bl, *], rfl, rfl⟩
  · refine aw_iload_n d_Sheets_isLane_4 rfl ?_
    refine aw_iconst (v := nI 3) d_Sheets_isLane_5 (by decide) ?_
    refine aw_icmp_ge (tgt := 13) d_Sheets_isLane_6 (by decide) (fun c6 => ?_) (fun c6 => ?_)
    · refine aw_iconst (v := nI 0) d_Sheets_isLane_13 (by decide) ?_
      refine aw_ireturn d_Sheets_isLane_14 rfl (by decide) ?_
      exact ⟨by simp [ab_bl, *], rfl, rfl⟩
    · refine aw_iconst (v := nI 1) d_Sheets_isLane_9 (by decide) ?_
      refine aw_goto (tgt := 14) d_Sheets_isLane_10 (by decide) ?_
      refine aw_ireturn d_Sheets_isLane_14 rfl (by decide) ?_
      exact ⟨by simp [ab_bl, *], rfl, rfl⟩
theorem c_Sheets_narrowed {m : Nat} {h : ab_H} (lane v : Int32) : ab_D Y_Sheets_narrowed [.int lane, .int v] m h (some (.int (if lane = 0 then v.toInt8.toInt32 else if lane = nI 1 then v.toInt16.toInt32 else v))) m (h) := by
  refine ab_C.of (L := [some (.int lane), some (.int v)]) rfl rfl (Nat.le_of_ble_eq_true rfl) (fun l => ?_)
  refine aw_iload_n d_Sheets_narrowed_0 rfl ?_
  refine aw_if_ne (tgt := 7) d_Sheets_narrowed_1 (by decide) (fun c1 => ?_) (fun c1 => ?_)
  · refine aw_iload_n d_Sheets_narrowed_7 rfl ?_
    refine aw_iconst (v := nI 1) d_Sheets_narrowed_8 (by decide) ?_
    refine aw_icmp_ne (tgt := 17) d_Sheets_narrowed_9 (by decide) (fun c9 => ?_) (fun c9 => ?_)
    · refine aw_iload_n d_Sheets_narrowed_17 rfl ?_
      refine aw_ireturn d_Sheets_narrowed_18 rfl rfl ?_
      exact ⟨by first | rw [if_neg c1, if_pos c9] | rw [if_neg c1, if_neg c9], rfl, rfl⟩
    · refine aw_iload_n d_Sheets_narrowed_12 rfl ?_
      refine aw_i2s d_Sheets_narrowed_13 ?_
      refine aw_goto (tgt := 18) d_Sheets_narrowed_14 (by decide) ?_
      refine aw_ireturn d_Sheets_narrowed_18 rfl rfl ?_
      exact ⟨by first | rw [if_neg c1, if_pos c9] | rw [if_neg c1, if_neg c9], rfl, rfl⟩
  · refine aw_iload_n d_Sheets_narrowed_4 rfl ?_
    refine aw_i2b d_Sheets_narrowed_5 ?_
    refine aw_ireturn d_Sheets_narrowed_6 rfl rfl ?_
    exact ⟨by rw [if_pos c1], rfl, rfl⟩
theorem c_Coat_byteOf {m : Nat} {h : ab_H} (w : Int64) (k : Int32) : ab_D Y_Coat_byteOf [.long w, .int k] m h (some (.int ((w >>> ((nI 8 * k).toInt64 &&& 63)).toInt32 &&& nI 255))) m (h) := by
  refine ab_C.of (L := [some (.long w), none, some (.int k)]) rfl rfl (Nat.le_of_ble_eq_true rfl) (fun l => ?_)
  refine aw_lload_n d_Coat_byteOf_0 rfl ?_
  refine aw_bipush (v := nI 8) d_Coat_byteOf_1 (by decide) ?_
  refine aw_iload_n d_Coat_byteOf_3 rfl ?_
  refine aw_imul d_Coat_byteOf_4 ?_
  refine aw_lshr d_Coat_byteOf_5 ?_
  refine aw_l2i d_Coat_byteOf_6 ?_
  refine aw_sipush (v := nI 255) d_Coat_byteOf_7 (by decide) ?_
  refine aw_iand d_Coat_byteOf_10 ?_
  refine aw_ireturn d_Coat_byteOf_11 rfl rfl ?_
  exact ⟨rfl, rfl, rfl⟩
theorem c_Tape_isSign {m : Nat} {h : ab_H} (b : Int32) : ab_D Y_Tape_isSign [.int b] m h (some (.int (ab_bl (!decide (b < nI 32) && !decide (nI 126 < b))))) m (h) := by
  refine ab_C.of (L := [some (.int b)]) rfl rfl (Nat.le_of_ble_eq_true rfl) (fun l => ?_)
  refine aw_iload_n d_Tape_isSign_0 rfl ?_
  refine aw_bipush (v := nI 32) d_Tape_isSign_1 (by decide) ?_
  refine aw_icmp_lt (tgt := 16) d_Tape_isSign_3 (by decide) (fun c3 => ?_) (fun c3 => ?_)
  · refine aw_iconst (v := nI 0) d_Tape_isSign_16 (by decide) ?_
    refine aw_ireturn d_Tape_isSign_17 rfl (by decide) ?_
    exact ⟨by simp [ab_bl, *], rfl, rfl⟩
  · refine aw_iload_n d_Tape_isSign_6 rfl ?_
    refine aw_bipush (v := nI 126) d_Tape_isSign_7 (by decide) ?_
    refine aw_icmp_gt (tgt := 16) d_Tape_isSign_9 (by decide) (fun c9 => ?_) (fun c9 => ?_)
    · refine aw_iconst (v := nI 0) d_Tape_isSign_16 (by decide) ?_
      refine aw_ireturn d_Tape_isSign_17 rfl (by decide) ?_
      exact ⟨by simp [ab_bl, *], rfl, rfl⟩
    · refine aw_iconst (v := nI 1) d_Tape_isSign_12 (by decide) ?_
      refine aw_goto (tgt := 17) d_Tape_isSign_13 (by decide) ?_
      refine aw_ireturn d_Tape_isSign_17 rfl (by decide) ?_
      exact ⟨by simp [ab_bl, *], rfl, rfl⟩
theorem c_M_in {m : Nat} {h : ab_H} (v lo hi : Int64) : ab_D Y_M_in [.long v, .long lo, .long hi] m h (some (.int (ab_bl (!decide (lg_cmp v lo < 0) && !decide (0 < lg_cmp v hi))))) m (h) := by
  refine ab_C.of (L := [some (.long v), none, some (.long lo), none, some (.long hi), none]) rfl rfl (Nat.le_of_ble_eq_true rfl) (fun l => ?_)
  refine aw_lload_n d_M_in_0 rfl ?_
  refine aw_lload_n d_M_in_1 rfl ?_
  refine aw_lcmp d_M_in_2 ?_
  refine aw_if_lt (tgt := 17) d_M_in_3 (by decide) (fun c3 => ?_) (fun c3 => ?_)
  · refine aw_iconst (v := nI 0) d_M_in_17 (by decide) ?_
    refine aw_ireturn d_M_in_18 rfl (by decide) ?_
    exact ⟨by simp [ab_bl, *], rfl, rfl⟩
  · refine aw_lload_n d_M_in_6 rfl ?_
    refine aw_lload d_M_in_7 rfl ?_
    refine aw_lcmp d_M_in_9 ?_
    refine aw_if_gt (tgt := 17) d_M_in_10 (by decide) (fun c10 => ?_) (fun c10 => ?_)
    · refine aw_iconst (v := nI 0) d_M_in_17 (by decide) ?_
      refine aw_ireturn d_M_in_18 rfl (by decide) ?_
      exact ⟨by simp [ab_bl, *], rfl, rfl⟩
    · refine aw_iconst (v := nI 1) d_M_in_13 (by decide) ?_
      refine aw_goto (tgt := 18) d_M_in_14 (by decide) ?_
      refine aw_ireturn d_M_in_18 rfl (by decide) ?_
      exact ⟨by simp [ab_bl, *], rfl, rfl⟩
theorem ab_in (v lo hi : Int64) : (!decide (lg_cmp v lo < 0) && !decide (0 < lg_cmp v hi)) = (decide (lo ≤ v) && decide (v ≤ hi)) := by
  have h1 : lg_cmp v lo < 0 ↔ ¬ lo ≤ v := by
    unfold lg_cmp
    by_cases a : lo < v
    · rw [if_pos a]
      exact ⟨fun q => absurd q (by decide), fun q => absurd (Int64.le_of_lt a) q⟩
    · rw [if_neg a]
      by_cases b : v = lo
      · rw [if_pos b, b]
        exact ⟨fun q => absurd q (by decide), fun q => absurd (Int64.le_refl _) q⟩
      · rw [if_neg b]
        refine ⟨fun _ q => ?_, fun _ => by decide⟩
        have e1 := Int64.le_iff_toInt_le.mp q
        have e2 : ¬ lo.toInt < v.toInt := fun z => a (Int64.lt_iff_toInt_lt.mpr z)
        exact b (Int64.toInt_inj.mp (by omega))
  have h2 : 0 < lg_cmp v hi ↔ ¬ v ≤ hi := by
    unfold lg_cmp
    by_cases a : hi < v
    · rw [if_pos a]
      exact ⟨fun _ => Int64.not_le.mpr a, fun _ => by decide⟩
    · rw [if_neg a]
      have h3 : v ≤ hi := Int64.not_lt.mp a
      by_cases b : v = hi
      · rw [if_pos b]
        exact ⟨fun q => absurd q (by decide), fun q => absurd h3 q⟩
      · rw [if_neg b]
        exact ⟨fun q => absurd q (by decide), fun q => absurd h3 q⟩
  by_cases a : lo ≤ v <;> by_cases b : v ≤ hi <;> simp [h1, h2, a, b]
