theorem i64_toInt (x : Int32) : x.toInt64.toInt = x.toInt := Int32.toInt_toInt64 x
theorem tl0 : (lN 0).toInt = 0 := by decide
theorem tl1 : (lN 1).toInt = 1 := by decide
theorem tl2 : (lN 2).toInt = 2 := by decide
theorem tl3 : (lN 3).toInt = 3 := by decide
theorem tl4 : (lN 4).toInt = 4 := by decide
theorem tl7 : (lN 7).toInt = 7 := by decide
theorem tl8 : (lN 8).toInt = 8 := by decide
theorem tl9 : (lN 9).toInt = 9 := by decide
theorem tl19 : (lN 19).toInt = 19 := by decide
theorem tl63 : (lN 63).toInt = 63 := by decide
theorem c_in {m : Nat} {h : ab_H} (v lo hi : Int64) : ab_D Y_M_in [.long v, .long lo, .long hi] m h (some (.int (ab_bl (decide (lo.toInt ≤ v.toInt ∧ v.toInt ≤ hi.toInt))))) m h := by
  have e := c_M_in (m := m) (h := h) v lo hi
  rw [ab_in] at e
  have e2 : (decide (lo ≤ v) && decide (v ≤ hi)) = decide (lo.toInt ≤ v.toInt ∧ v.toInt ≤ hi.toInt) := by
    simp only [fa_le64, Bool.decide_and]
  rw [e2] at e
  exact e
theorem c_M_isSheet {m : Nat} {h : ab_H} (v : Int32) : ab_D Y_M_isSheet [.int v] m h (some (.int (ab_bl (decide (ir v 0 3))))) m (h) := by
  refine ab_C.of (L := [some (.int v)]) rfl rfl (Nat.le_of_ble_eq_true rfl) (fun l => ?_)
  refine aw_iload_n d_M_isSheet_0 rfl ?_
  refine aw_i2l d_M_isSheet_1 ?_
  refine aw_lconst (v := lN 0) d_M_isSheet_2 (by decide) ?_
  refine aw_ldc2 (v := lN 3) d_M_isSheet_3 k_M_342 ?_
  refine aw_s0i d_M_isSheet_6 k_M_121 ok_M_in rfl ⟨rfl, rfl⟩ (c_in v.toInt64 (lN 0) (lN 3)) rfl rfl (Nat.le_of_ble_eq_true rfl) ?_
  refine aw_ireturn d_M_isSheet_9 rfl (ab_bl_nar _) ?_
  exact ⟨by rw [i64_toInt, tl0, tl3], rfl, rfl⟩
theorem c_M_isLane {m : Nat} {h : ab_H} (v : Int32) : ab_D Y_M_isLane [.int v] m h (some (.int (ab_bl (decide (ir v 0 2))))) m (h) := by
  refine ab_C.of (L := [some (.int v)]) rfl rfl (Nat.le_of_ble_eq_true rfl) (fun l => ?_)
  refine aw_iload_n d_M_isLane_0 rfl ?_
  refine aw_i2l d_M_isLane_1 ?_
  refine aw_lconst (v := lN 0) d_M_isLane_2 (by decide) ?_
  refine aw_ldc2 (v := lN 2) d_M_isLane_3 k_M_177 ?_
  refine aw_s0i d_M_isLane_6 k_M_121 ok_M_in rfl ⟨rfl, rfl⟩ (c_in v.toInt64 (lN 0) (lN 2)) rfl rfl (Nat.le_of_ble_eq_true rfl) ?_
  refine aw_ireturn d_M_isLane_9 rfl (ab_bl_nar _) ?_
  exact ⟨by rw [i64_toInt, tl0, tl2], rfl, rfl⟩
theorem c_M_isAt {m : Nat} {h : ab_H} (x y : Int32) : ab_D Y_M_isAt [.int x, .int y] m h (some (.int (ab_bl (decide (ir x 0 19 ∧ ir y 0 19))))) m (h) := by
  refine ab_C.of (L := [some (.int x), some (.int y)]) rfl rfl (Nat.le_of_ble_eq_true rfl) (fun l => ?_)
  refine aw_iload_n d_M_isAt_0 rfl ?_
  refine aw_i2l d_M_isAt_1 ?_
  refine aw_lconst (v := lN 0) d_M_isAt_2 (by decide) ?_
  refine aw_ldc2 (v := lN 19) d_M_isAt_3 k_M_125 ?_
  refine aw_s0i d_M_isAt_6 k_M_121 ok_M_in rfl ⟨rfl, rfl⟩ (c_in x.toInt64 (lN 0) (lN 19)) rfl rfl (Nat.le_of_ble_eq_true rfl) ?_
  refine aw_if_eq (tgt := 28) d_M_isAt_9 (by decide) (fun c9 => ?_) (fun c9 => ?_)
  · refine aw_iconst (v := nI 0) d_M_isAt_28 (by decide) ?_
    refine aw_ireturn d_M_isAt_29 rfl (by decide) ?_
    refine ⟨ab_fin ?_, rfl, rfl⟩
    simp only [ab_bl_0, ab_bl_1, decide_eq_true_eq, decide_eq_false_iff_not, Classical.not_not, i64_toInt, tl0, tl19] at c9
    first
      | exact Or.inl ⟨⟨c9, c21⟩, rfl⟩
      | exact Or.inr ⟨fun q => c9 q.1, rfl⟩
      | exact Or.inr ⟨fun q => c21 q.2, rfl⟩
  · refine aw_iload_n d_M_isAt_12 rfl ?_
    refine aw_i2l d_M_isAt_13 ?_
    refine aw_lconst (v := lN 0) d_M_isAt_14 (by decide) ?_
    refine aw_ldc2 (v := lN 19) d_M_isAt_15 k_M_125 ?_
    refine aw_s0i d_M_isAt_18 k_M_121 ok_M_in rfl ⟨rfl, rfl⟩ (c_in y.toInt64 (lN 0) (lN 19)) rfl rfl (Nat.le_of_ble_eq_true rfl) ?_
    refine aw_if_eq (tgt := 28) d_M_isAt_21 (by decide) (fun c21 => ?_) (fun c21 => ?_)
    · refine aw_iconst (v := nI 0) d_M_isAt_28 (by decide) ?_
      refine aw_ireturn d_M_isAt_29 rfl (by decide) ?_
      refine ⟨ab_fin ?_, rfl, rfl⟩
      simp only [ab_bl_0, ab_bl_1, decide_eq_true_eq, decide_eq_false_iff_not, Classical.not_not, i64_toInt, tl0, tl19] at c9 c21
      first
        | exact Or.inl ⟨⟨c9, c21⟩, rfl⟩
        | exact Or.inr ⟨fun q => c9 q.1, rfl⟩
        | exact Or.inr ⟨fun q => c21 q.2, rfl⟩
    · refine aw_iconst (v := nI 1) d_M_isAt_24 (by decide) ?_
      refine aw_goto (tgt := 29) d_M_isAt_25 (by decide) ?_
      refine aw_ireturn d_M_isAt_29 rfl (by decide) ?_
      refine ⟨ab_fin ?_, rfl, rfl⟩
      simp only [ab_bl_0, ab_bl_1, decide_eq_true_eq, decide_eq_false_iff_not, Classical.not_not, i64_toInt, tl0, tl19] at c9 c21
      first
        | exact Or.inl ⟨⟨c9, c21⟩, rfl⟩
        | exact Or.inr ⟨fun q => c9 q.1, rfl⟩
        | exact Or.inr ⟨fun q => c21 q.2, rfl⟩
theorem n_1T {n : Nat} (hn : n ≤ 6) : (nI n - nI 1).toInt = (n : Int) - 1 := pk_sub_toInt (by omega) (by decide)
theorem c_M_isPerson {m : Nat} {h : ab_H} {n ns ra se : Nat} {me mi tab ve la : Int32} {tl : Nat} {at_ wr : Int32} {fe : Nat} {kp : Bool} (hM : h 56 = oM n ns ra se me mi tab ve la tl at_ wr fe kp) (hn : n ≤ 6) (x : Int32) : ab_D Y_M_isPerson [.ref 56, .int x] m h (some (.int (ab_bl (decide (ir x 0 (n - 1 : Int)))))) m (h) := by
  refine ab_C.of (L := [some (.ref 56), some (.int x)]) rfl rfl (Nat.le_of_ble_eq_true rfl) (fun l => ?_)
  refine aw_iload_n d_M_isPerson_0 rfl ?_
  refine aw_i2l d_M_isPerson_1 ?_
  refine aw_lconst (v := lN 0) d_M_isPerson_2 (by decide) ?_
  refine aw_aload_n d_M_isPerson_3 rfl ?_
  refine aw_get (k := 0) d_M_isPerson_4 cl_Model k_M_118 (by decide) hM rfl ?_
  refine aw_iconst (v := nI 1) d_M_isPerson_7 (by decide) ?_
  refine aw_isub d_M_isPerson_8 ?_
  refine aw_i2l d_M_isPerson_9 ?_
  refine aw_s0i d_M_isPerson_10 k_M_121 ok_M_in rfl ⟨rfl, rfl⟩ (c_in x.toInt64 (lN 0) (((nI n) - (nI 1)).toInt64)) rfl rfl (Nat.le_of_ble_eq_true rfl) ?_
  refine aw_ireturn d_M_isPerson_13 rfl (ab_bl_nar _) ?_
  exact ⟨by rw [i64_toInt, tl0, i64_toInt, n_1T hn], rfl, rfl⟩
theorem la_up {la : Int32} {ve : Nat} {P P2 : Prop} (h : la = -1 ∨ ∃ j, j ≤ ve ∧ la = nI j ∧ (j = ve → P)) : la = -1 ∨ ∃ j, j ≤ ve + 1 ∧ la = nI j ∧ (j = ve + 1 → P2) := by
  rcases h with h | ⟨j, h1, h2, -⟩
  · exact Or.inl h
  · exact Or.inr ⟨j, by omega, h2, fun q => absurd q (by omega)⟩
theorem rp_.up2 {h : ab_H} {a n m : Nat} {f : Nat → Nat} {g : Nat → Int32} {j v : Nat} (he : h a = .inl (n, upd g j (nI v))) (ag : ∀ k, k < m → g k = nI (f k)) : rp_ h a n m (ud f j v) := by
  refine ⟨_, he, fun k hk => ?_⟩
  by_cases e : k = j
  · subst e; rw [pk_us, ud_s]
  · rw [pk_un e, ud_n e]; exact ag k hk
theorem irN {x : Int32} {n : Nat} (h : ir x 0 (n - 1 : Int)) : ∃ j, j < n ∧ x = nI j := ⟨cl x, by have := cl_int h.1; have := h.2; omega, cl_of h.1⟩
theorem irC {x : Int32} {n : Nat} (h : ir x 0 n) : ∃ j, j ≤ n ∧ x = nI j := ⟨cl x, by have := cl_int h.1; have := h.2; omega, cl_of h.1⟩
theorem y_marks {V : VV} {m c : Nat} {h : ab_H} {S : SS} (hM : PM V c h S) (ok : S_ok S) (hc : c < 900) (hV : V_ok V) (a v : Int32) : CM V Y_M_marks [.int a, .int v] m c h (fun r S2 => (r, S2) = sp_marks S a v) := by
  obtain ⟨⟨tab, la, at_, wr, ve, fs, ft, m0, m1, m2, m3, m4, m5, m6⟩, ⟨n0, n1, n2, n3, n4, n5, n6, n7, n8, n9⟩, q1, q2, q3, q4⟩ := id hM
  have hn6 : N_n (S_N S) ≤ 6 := ok.1.1
  have hnT := nI_toInt (show N_n (S_N S) < 2 ^ 31 by omega)
  refine ab_C.of (L := [some (.ref 56), some (.int a), some (.int v), none]) rfl rfl (Nat.le_of_ble_eq_true rfl) (fun l => ?_)
  obtain ⟨gm, hm, am⟩ := id n2
  refine aw_aload_n d_M_marks_0 rfl ?_
  refine aw_iload_n d_M_marks_1 rfl ?_
  refine aw_v0i d_M_marks_2 k_M_140 ok_M_isPerson rfl ⟨rfl, rfl⟩ cl_Model m0 (c_M_isPerson m0 hn6 a) rfl rfl (Nat.le_of_ble_eq_true rfl) ?_
  refine aw_if_eq (tgt := 20) d_M_marks_5 (by decide) (fun c5 => ?_) (fun c5 => ?_)
  · refine aw_iconst (v := (-1)) d_M_marks_20 (by decide) ?_
    refine aw_ireturn d_M_marks_21 rfl rfl ?_
    refine ⟨_, S, rfl, ?_, ⟨⟨tab, la, at_, wr, ve, fs, ft, m0, by omega, by omega, m3, m4, m5, m6⟩, ⟨n0, n1, n2, n3, n4, n5, n6, n7, n8, n9⟩, q1, q2, q3, q4⟩, rfl, fun k _ => rfl⟩
    try subst_vars
    unfold sp_marks
    repeat' split
    all_goals first
      | rfl
      | (exfalso; (try simp only [ab_bl_0, ab_bl_1, Bool.and_eq_true, Bool.and_eq_false_iff, Bool.not_eq_true', Bool.not_eq_false', decide_eq_true_eq, decide_eq_false_iff_not] at *); (try simp only [fa_lt, fa_le, fa_eq, ir, ti0, ti1, ti2, ti3, ti4, ti6, ti9, ti20, ti64, tim1, Int32.toInt_zero, Int32.toInt_one, true_and, and_true, false_and, and_false, not_true_eq_false, not_false_eq_true, false_or, or_false, i64_toInt, tl0, tl1, tl2, tl3, tl4, tl9, tl19, tl63, hnT] at *) <;> omega)
      | (fail)
  · refine aw_iload_n d_M_marks_8 rfl ?_
    refine aw_i2l d_M_marks_9 ?_
    refine aw_lconst (v := lN 0) d_M_marks_10 (by decide) ?_
    refine aw_ldc2 (v := lN 63) d_M_marks_11 k_M_131 ?_
    refine aw_s0i d_M_marks_14 k_M_121 ok_M_in rfl ⟨rfl, rfl⟩ (c_in v.toInt64 (lN 0) (lN 63)) rfl rfl (Nat.le_of_ble_eq_true rfl) ?_
    refine aw_if_ne (tgt := 22) d_M_marks_17 (by decide) (fun c17 => ?_) (fun c17 => ?_)
    · obtain ⟨j, hj, rfl⟩ := irN (of_decide_eq_true (ab_bl_1.mp c5))
      obtain ⟨u, hu, rfl⟩ := irC (x := v) (n := 63) (by have := of_decide_eq_true (ab_bl_1.mp c17); rw [i64_toInt, tl0, tl63] at this; exact this)
      refine aw_aload_n d_M_marks_22 rfl ?_
      refine aw_get (k := 3) d_M_marks_23 cl_Model k_M_16 (by decide) m0 rfl ?_
      refine aw_iload_n d_M_marks_26 rfl ?_
      refine aw_ialoadN d_M_marks_27 hm (by omega) (by decide) ?_
      refine aw_topi (fun v28 ev28 => ?_)
      refine aw_istore_n (L' := [some (.ref 56), some (.int (nI j)), some (.int (nI u)), some (.int v28)]) d_M_marks_28 ⟨by decide, rfl⟩ rfl ?_
      refine aw_aload_n d_M_marks_29 rfl ?_
      refine aw_get (k := 3) d_M_marks_30 cl_Model k_M_16 (by decide) m0 rfl ?_
      refine aw_iload_n d_M_marks_33 rfl ?_
      refine aw_iload_n d_M_marks_34 rfl ?_
      refine aw_iastoreN d_M_marks_35 hm (by omega) (by decide) ?_
      refine aw_iload_n d_M_marks_36 rfl ?_
      refine aw_ireturn d_M_marks_37 rfl rfl ?_
      refine ⟨_, S_N_ S (N_mk_ (S_N S) (ud (N_mk (S_N S)) j u)), rfl, ?_, ⟨⟨tab, la, at_, wr, ve, fs, ft, m0, by omega, by omega, m3, m4, m5, ?_⟩, ⟨n0, n1, rw_.up2 rfl am, n3, n4, n5, n6, n7, n8, n9⟩, q1, q2, q3, q4⟩, rfl, (fun k hk => ab_set_ne (by omega))⟩
      · try subst_vars
        unfold sp_marks
        repeat' split
        all_goals first
          | rfl
          | (exfalso; (try simp only [ab_bl_0, ab_bl_1, Bool.and_eq_true, Bool.and_eq_false_iff, Bool.not_eq_true', Bool.not_eq_false', decide_eq_true_eq, decide_eq_false_iff_not] at *); (try simp only [fa_lt, fa_le, fa_eq, ir, ti0, ti1, ti2, ti3, ti4, ti6, ti9, ti20, ti64, tim1, Int32.toInt_zero, Int32.toInt_one, true_and, and_true, false_and, and_false, not_true_eq_false, not_false_eq_true, false_or, or_false, i64_toInt, tl0, tl1, tl2, tl3, tl4, tl9, tl19, tl63, hnT] at *) <;> omega)
          | (simp only [cl_nI (show j < 2 ^ 31 by omega), cl_nI (show u < 2 ^ 31 by omega), am j (by omega)])
      · rw [show V.2.2.2.2 (S_N (S_N_ S (N_mk_ (S_N S) (ud (N_mk (S_N S)) j u)))) = V.2.2.2.2 (S_N S) from (hV.1 _ _).2.2.2]; exact m6
    · refine aw_iconst (v := (-1)) d_M_marks_20 (by decide) ?_
      refine aw_ireturn d_M_marks_21 rfl rfl ?_
      refine ⟨_, S, rfl, ?_, ⟨⟨tab, la, at_, wr, ve, fs, ft, m0, by omega, by omega, m3, m4, m5, m6⟩, ⟨n0, n1, n2, n3, n4, n5, n6, n7, n8, n9⟩, q1, q2, q3, q4⟩, rfl, fun k _ => rfl⟩
      try subst_vars
      unfold sp_marks
      repeat' split
      all_goals first
        | rfl
        | (exfalso; (try simp only [ab_bl_0, ab_bl_1, Bool.and_eq_true, Bool.and_eq_false_iff, Bool.not_eq_true', Bool.not_eq_false', decide_eq_true_eq, decide_eq_false_iff_not] at *); (try simp only [fa_lt, fa_le, fa_eq, ir, ti0, ti1, ti2, ti3, ti4, ti6, ti9, ti20, ti64, tim1, Int32.toInt_zero, Int32.toInt_one, true_and, and_true, false_and, and_false, not_true_eq_false, not_false_eq_true, false_or, or_false, i64_toInt, tl0, tl1, tl2, tl3, tl4, tl9, tl19, tl63, hnT] at *) <;> omega)
        | (fail)
theorem y_likes {V : VV} {m c : Nat} {h : ab_H} {S : SS} (hM : PM V c h S) (ok : S_ok S) (hc : c < 900) (hV : V_ok V) (a b v : Int32) : CM V Y_M_likes [.int a, .int b, .int v] m c h (fun r S2 => (r, S2) = sp_likes S a b v) := by
  obtain ⟨⟨tab, la, at_, wr, ve, fs, ft, m0, m1, m2, m3, m4, m5, m6⟩, ⟨n0, n1, n2, n3, n4, n5, n6, n7, n8, n9⟩, q1, q2, q3, q4⟩ := id hM
  have hn6 : N_n (S_N S) ≤ 6 := ok.1.1
  have hnT := nI_toInt (show N_n (S_N S) < 2 ^ 31 by omega)
  refine ab_C.of (L := [some (.ref 56), some (.int a), some (.int b), some (.int v), none]) rfl rfl (Nat.le_of_ble_eq_true rfl) (fun l => ?_)
  obtain ⟨gm, hm, am⟩ := id n4
  refine aw_aload_n d_M_likes_0 rfl ?_
  refine aw_iload_n d_M_likes_1 rfl ?_
  refine aw_v0i d_M_likes_2 k_M_140 ok_M_isPerson rfl ⟨rfl, rfl⟩ cl_Model m0 (c_M_isPerson m0 hn6 a) rfl rfl (Nat.le_of_ble_eq_true rfl) ?_
  refine aw_if_eq (tgt := 28) d_M_likes_5 (by decide) (fun c5 => ?_) (fun c5 => ?_)
  · refine aw_iconst (v := (-1)) d_M_likes_28 (by decide) ?_
    refine aw_ireturn d_M_likes_29 rfl rfl ?_
    refine ⟨_, S, rfl, ?_, ⟨⟨tab, la, at_, wr, ve, fs, ft, m0, by omega, by omega, m3, m4, m5, m6⟩, ⟨n0, n1, n2, n3, n4, n5, n6, n7, n8, n9⟩, q1, q2, q3, q4⟩, rfl, fun k _ => rfl⟩
    try subst_vars
    unfold sp_likes
    repeat' split
    all_goals first
      | rfl
      | (exfalso; (try simp only [ab_bl_0, ab_bl_1, Bool.and_eq_true, Bool.and_eq_false_iff, Bool.not_eq_true', Bool.not_eq_false', decide_eq_true_eq, decide_eq_false_iff_not] at *); (try simp only [fa_lt, fa_le, fa_eq, ir, ti0, ti1, ti2, ti3, ti4, ti6, ti9, ti20, ti64, tim1, Int32.toInt_zero, Int32.toInt_one, true_and, and_true, false_and, and_false, not_true_eq_false, not_false_eq_true, false_or, or_false, i64_toInt, tl0, tl1, tl2, tl3, tl4, tl9, tl19, tl63, hnT] at *) <;> omega)
      | (fail)
  · refine aw_aload_n d_M_likes_8 rfl ?_
    refine aw_iload_n d_M_likes_9 rfl ?_
    refine aw_v0i d_M_likes_10 k_M_140 ok_M_isPerson rfl ⟨rfl, rfl⟩ cl_Model m0 (c_M_isPerson m0 hn6 b) rfl rfl (Nat.le_of_ble_eq_true rfl) ?_
    refine aw_if_eq (tgt := 28) d_M_likes_13 (by decide) (fun c13 => ?_) (fun c13 => ?_)
    · refine aw_iconst (v := (-1)) d_M_likes_28 (by decide) ?_
      refine aw_ireturn d_M_likes_29 rfl rfl ?_
      refine ⟨_, S, rfl, ?_, ⟨⟨tab, la, at_, wr, ve, fs, ft, m0, by omega, by omega, m3, m4, m5, m6⟩, ⟨n0, n1, n2, n3, n4, n5, n6, n7, n8, n9⟩, q1, q2, q3, q4⟩, rfl, fun k _ => rfl⟩
      try subst_vars
      unfold sp_likes
      repeat' split
      all_goals first
        | rfl
        | (exfalso; (try simp only [ab_bl_0, ab_bl_1, Bool.and_eq_true, Bool.and_eq_false_iff, Bool.not_eq_true', Bool.not_eq_false', decide_eq_true_eq, decide_eq_false_iff_not] at *); (try simp only [fa_lt, fa_le, fa_eq, ir, ti0, ti1, ti2, ti3, ti4, ti6, ti9, ti20, ti64, tim1, Int32.toInt_zero, Int32.toInt_one, true_and, and_true, false_and, and_false, not_true_eq_false, not_false_eq_true, false_or, or_false, i64_toInt, tl0, tl1, tl2, tl3, tl4, tl9, tl19, tl63, hnT] at *) <;> omega)
        | (fail)
    · refine aw_iload_n d_M_likes_16 rfl ?_
      refine aw_i2l d_M_likes_17 ?_
      refine aw_lconst (v := lN 0) d_M_likes_18 (by decide) ?_
      refine aw_ldc2 (v := lN 9) d_M_likes_19 k_M_154 ?_
      refine aw_s0i d_M_likes_22 k_M_121 ok_M_in rfl ⟨rfl, rfl⟩ (c_in v.toInt64 (lN 0) (lN 9)) rfl rfl (Nat.le_of_ble_eq_true rfl) ?_
      refine aw_if_ne (tgt := 30) d_M_likes_25 (by decide) (fun c25 => ?_) (fun c25 => ?_)
      · obtain ⟨j, hj, rfl⟩ := irN (of_decide_eq_true (ab_bl_1.mp c5))
        obtain ⟨i, hi, rfl⟩ := irN (of_decide_eq_true (ab_bl_1.mp c13))
        obtain ⟨u, hu, rfl⟩ := irC (x := v) (n := 9) (by have := of_decide_eq_true (ab_bl_1.mp c25); rw [i64_toInt, tl0, tl9] at this; exact this)
        refine aw_aload_n d_M_likes_30 rfl ?_
        refine aw_get (k := 5) d_M_likes_31 cl_Model k_M_22 (by decide) m0 rfl ?_
        refine aw_bipush (v := nI 6) d_M_likes_34 (by decide) ?_
        refine aw_iload_n d_M_likes_36 rfl ?_
        refine aw_imul d_M_likes_37 ?_
        refine aw_iload_n d_M_likes_38 rfl ?_
        refine aw_iadd d_M_likes_39 ?_
        rw [pk_mul, nI_add]
        refine aw_ialoadN d_M_likes_40 hm (by omega) (by decide) ?_
        refine aw_topi (fun v41 ev41 => ?_)
        refine aw_istore (L' := [some (.ref 56), some (.int (nI j)), some (.int (nI i)), some (.int (nI u)), some (.int v41)]) d_M_likes_41 ⟨by decide, rfl⟩ rfl ?_
        refine aw_aload_n d_M_likes_43 rfl ?_
        refine aw_get (k := 5) d_M_likes_44 cl_Model k_M_22 (by decide) m0 rfl ?_
        refine aw_bipush (v := nI 6) d_M_likes_47 (by decide) ?_
        refine aw_iload_n d_M_likes_49 rfl ?_
        refine aw_imul d_M_likes_50 ?_
        refine aw_iload_n d_M_likes_51 rfl ?_
        refine aw_iadd d_M_likes_52 ?_
        rw [pk_mul, nI_add]
        refine aw_iload_n d_M_likes_53 rfl ?_
        refine aw_iastoreN d_M_likes_54 hm (by omega) (by decide) ?_
        refine aw_iload d_M_likes_55 rfl ?_
        refine aw_ireturn d_M_likes_57 rfl rfl ?_
        refine ⟨_, S_N_ S (N_lk_ (S_N S) (ud (N_lk (S_N S)) (6 * j + i) u)), rfl, ?_, ⟨⟨tab, la, at_, wr, ve, fs, ft, m0, by omega, by omega, m3, m4, m5, ?_⟩, ⟨n0, n1, n2, n3, rw_.up2 rfl am, n5, n6, n7, n8, n9⟩, q1, q2, q3, q4⟩, rfl, (fun k hk => ab_set_ne (by omega))⟩
        · try subst_vars
          unfold sp_likes
          repeat' split
          all_goals first
            | rfl
            | (exfalso; (try simp only [ab_bl_0, ab_bl_1, Bool.and_eq_true, Bool.and_eq_false_iff, Bool.not_eq_true', Bool.not_eq_false', decide_eq_true_eq, decide_eq_false_iff_not] at *); (try simp only [fa_lt, fa_le, fa_eq, ir, ti0, ti1, ti2, ti3, ti4, ti6, ti9, ti20, ti64, tim1, Int32.toInt_zero, Int32.toInt_one, true_and, and_true, false_and, and_false, not_true_eq_false, not_false_eq_true, false_or, or_false, i64_toInt, tl0, tl1, tl2, tl3, tl4, tl9, tl19, tl63, hnT] at *) <;> omega)
            | (simp only [cl_nI (show j < 2 ^ 31 by omega), cl_nI (show i < 2 ^ 31 by omega), cl_nI (show u < 2 ^ 31 by omega), am (6 * j + i) (by omega)])
        · rw [show V.2.2.2.2 (S_N (S_N_ S (N_lk_ (S_N S) (ud (N_lk (S_N S)) (6 * j + i) u)))) = V.2.2.2.2 (S_N S) from (hV.2.1 _ _).2.2.2]; exact m6
      · refine aw_iconst (v := (-1)) d_M_likes_28 (by decide) ?_
        refine aw_ireturn d_M_likes_29 rfl rfl ?_
        refine ⟨_, S, rfl, ?_, ⟨⟨tab, la, at_, wr, ve, fs, ft, m0, by omega, by omega, m3, m4, m5, m6⟩, ⟨n0, n1, n2, n3, n4, n5, n6, n7, n8, n9⟩, q1, q2, q3, q4⟩, rfl, fun k _ => rfl⟩
        try subst_vars
        unfold sp_likes
        repeat' split
        all_goals first
          | rfl
          | (exfalso; (try simp only [ab_bl_0, ab_bl_1, Bool.and_eq_true, Bool.and_eq_false_iff, Bool.not_eq_true', Bool.not_eq_false', decide_eq_true_eq, decide_eq_false_iff_not] at *); (try simp only [fa_lt, fa_le, fa_eq, ir, ti0, ti1, ti2, ti3, ti4, ti6, ti9, ti20, ti64, tim1, Int32.toInt_zero, Int32.toInt_one, true_and, and_true, false_and, and_false, not_true_eq_false, not_false_eq_true, false_or, or_false, i64_toInt, tl0, tl1, tl2, tl3, tl4, tl9, tl19, tl63, hnT] at *) <;> omega)
          | (fail)
theorem bt_bits : ∀ w, w < 64 → ∀ j, j < 6 → ∀ k, k < 6 → (bt w j true / 2 ^ k % 2 = if k = j then 1 else w / 2 ^ k % 2) ∧ (bt w j false / 2 ^ k % 2 = if k = j then 0 else w / 2 ^ k % 2) := by decide +kernel
theorem y_wont {V : VV} {m c : Nat} {h : ab_H} {S : SS} (hM : PM V c h S) (ok : S_ok S) (hc : c < 900)  (a b : Int32) : CM V Y_M_wont [.int a, .int b] m c h (fun r S2 => (r, S2) = sp_wont S a (!decide (b = 0))) := by
  obtain ⟨⟨tab, la, at_, wr, ve, fs, ft, m0, m1, m2, m3, m4, m5, m6⟩, ⟨n0, n1, n2, n3, n4, n5, n6, n7, n8, n9⟩, q1, q2, q3, q4⟩ := id hM
  have hn6 : N_n (S_N S) ≤ 6 := ok.1.1
  have hnT := nI_toInt (show N_n (S_N S) < 2 ^ 31 by omega)
  refine ab_C.of (L := [some (.ref 56), some (.int a), some (.int b), none]) rfl rfl (Nat.le_of_ble_eq_true rfl) (fun l => ?_)
  obtain ⟨gm, hm, am⟩ := id n5
  have hw6 : N_w (S_N S) < 64 := two_le6 hn6 ok.1.2.2.2.2.1
  refine aw_aload_n d_M_wont_0 rfl ?_
  refine aw_iload_n d_M_wont_1 rfl ?_
  refine aw_v0i d_M_wont_2 k_M_140 ok_M_isPerson rfl ⟨rfl, rfl⟩ cl_Model m0 (c_M_isPerson m0 hn6 a) rfl rfl (Nat.le_of_ble_eq_true rfl) ?_
  refine aw_if_ne (tgt := 10) d_M_wont_5 (by decide) (fun c5 => ?_) (fun c5 => ?_)
  · obtain ⟨j, hj, rfl⟩ := irN (of_decide_eq_true (ab_bl_1.mp c5))
    refine aw_aload_n d_M_wont_10 rfl ?_
    refine aw_get (k := 6) d_M_wont_11 cl_Model k_M_25 (by decide) m0 rfl ?_
    refine aw_iload_n d_M_wont_14 rfl ?_
    refine aw_ialoadN d_M_wont_15 hm (by omega) (by decide) ?_
    refine aw_topi (fun v16 ev16 => ?_)
    refine aw_istore_n (L' := [some (.ref 56), some (.int (nI j)), some (.int b), some (.int v16)]) d_M_wont_16 ⟨by decide, rfl⟩ rfl ?_
    refine aw_aload_n d_M_wont_17 rfl ?_
    refine aw_get (k := 6) d_M_wont_18 cl_Model k_M_25 (by decide) m0 rfl ?_
    refine aw_iload_n d_M_wont_21 rfl ?_
    refine aw_iload_n d_M_wont_22 rfl ?_
    refine aw_if_eq (tgt := 30) d_M_wont_23 (by decide) (fun c23 => ?_) (fun c23 => ?_)
    · refine aw_iconst (v := nI 0) d_M_wont_30 (by decide) ?_
      refine aw_iastoreN d_M_wont_31 hm (by omega) (by decide) ?_
      refine aw_aload_n d_M_wont_32 rfl ?_
      refine aw_dup d_M_wont_33 rfl ?_
      refine aw_get (k := 25) d_M_wont_34 cl_Model k_M_133 (by decide) m0 rfl ?_
      refine aw_iconst (v := nI 1) d_M_wont_37 (by decide) ?_
      refine aw_iadd d_M_wont_38 ?_
      rw [nI_add]
      refine aw_put (k := 25) (fs' := [.int (nI (N_n (S_N S))), .ref 57, .ref 58, .ref 59, .ref 60, .ref 61, .ref 62, .ref 63, .int (nI (N_ns (S_N S))), .ref 64, .ref 65, .int (nI (N_ra (S_N S))), .int (nI (N_se (S_N S))), .int (N_me (S_N S)), .int (N_mi (S_N S)), .ref 66, .ref 67, .int tab, .ref 68, .ref 69, .ref 70, .ref 71, .ref 72, .ref 73, .ref 74, .int (nI (ve + 1)), .int la, .ref 75, .ref 76, .int (nI (S_tl S)), .int at_, .int wr, .ref 77, .ref 78, .int (nI (N_fe (S_N S))), .ref 79, .ref 80, .ref 81, .ref 82, .ref 83, .ref 84, .int (ab_bl (S_K S).isSome), .ref 85, .ref 86, .ref 87, .ref 88]) d_M_wont_39 cl_Model k_M_133 (by decide) rfl ⟨rfl, rfl⟩ m0 (Nat.le_of_ble_eq_true rfl) rfl ?_
      refine aw_iload_n d_M_wont_42 rfl ?_
      refine aw_ireturn d_M_wont_43 rfl rfl ?_
      refine ⟨_, S_N_ S (N_w_ (S_N S) (bt (N_w (S_N S)) j (!decide (b = 0)))), rfl, ?_, ⟨⟨tab, la, at_, wr, ve + 1, fs, ft, rfl, by omega, by omega, m3, m4, m5, la_up m6⟩, ⟨n0, n1, n2, n3, n4, ⟨_, rfl, fun k hk => ?_⟩, n6, n7, n8, n9⟩, q1, q2, q3, q4⟩, rfl, (fun k hk => by rw [ab_set_ne (by omega), ab_set_ne (by omega)])⟩
      · try subst_vars
        unfold sp_wont
        repeat' split
        all_goals first
          | rfl
          | (exact absurd (of_decide_eq_true (ab_bl_1.mp c5)) (by assumption))
          | (exfalso; (try simp only [ab_bl_0, ab_bl_1, Bool.and_eq_true, Bool.and_eq_false_iff, Bool.not_eq_true', Bool.not_eq_false', decide_eq_true_eq, decide_eq_false_iff_not] at *); (try simp only [fa_lt, fa_le, fa_eq, ir, ti0, ti1, ti2, ti3, ti4, ti6, ti9, ti20, ti64, tim1, Int32.toInt_zero, Int32.toInt_one, true_and, and_true, false_and, and_false, not_true_eq_false, not_false_eq_true, false_or, or_false, i64_toInt, tl0, tl1, tl2, tl3, tl4, tl9, tl19, tl63, hnT] at *) <;> omega)
          | (simp only [cl_nI (show j < 2 ^ 31 by omega), am j (by omega)])
      · have hk : k < N_n (S_N S) := hk
        have hb := bt_bits _ hw6 j (by omega) k (by omega)
        show upd gm j _ k = nI (bt (N_w (S_N S)) j (!decide (b = 0)) / 2 ^ k % 2)
        simp only [c23, decide_true, decide_false, Bool.not_true, Bool.not_false, hb.1, hb.2]
        by_cases e : k = j
        · subst e; rw [pk_us, if_pos rfl]
        · rw [pk_un e, if_neg e]; exact am k hk
    · refine aw_iconst (v := nI 1) d_M_wont_26 (by decide) ?_
      refine aw_goto (tgt := 31) d_M_wont_27 (by decide) ?_
      refine aw_iastoreN d_M_wont_31 hm (by omega) (by decide) ?_
      refine aw_aload_n d_M_wont_32 rfl ?_
      refine aw_dup d_M_wont_33 rfl ?_
      refine aw_get (k := 25) d_M_wont_34 cl_Model k_M_133 (by decide) m0 rfl ?_
      refine aw_iconst (v := nI 1) d_M_wont_37 (by decide) ?_
      refine aw_iadd d_M_wont_38 ?_
      rw [nI_add]
      refine aw_put (k := 25) (fs' := [.int (nI (N_n (S_N S))), .ref 57, .ref 58, .ref 59, .ref 60, .ref 61, .ref 62, .ref 63, .int (nI (N_ns (S_N S))), .ref 64, .ref 65, .int (nI (N_ra (S_N S))), .int (nI (N_se (S_N S))), .int (N_me (S_N S)), .int (N_mi (S_N S)), .ref 66, .ref 67, .int tab, .ref 68, .ref 69, .ref 70, .ref 71, .ref 72, .ref 73, .ref 74, .int (nI (ve + 1)), .int la, .ref 75, .ref 76, .int (nI (S_tl S)), .int at_, .int wr, .ref 77, .ref 78, .int (nI (N_fe (S_N S))), .ref 79, .ref 80, .ref 81, .ref 82, .ref 83, .ref 84, .int (ab_bl (S_K S).isSome), .ref 85, .ref 86, .ref 87, .ref 88]) d_M_wont_39 cl_Model k_M_133 (by decide) rfl ⟨rfl, rfl⟩ m0 (Nat.le_of_ble_eq_true rfl) rfl ?_
      refine aw_iload_n d_M_wont_42 rfl ?_
      refine aw_ireturn d_M_wont_43 rfl rfl ?_
      refine ⟨_, S_N_ S (N_w_ (S_N S) (bt (N_w (S_N S)) j (!decide (b = 0)))), rfl, ?_, ⟨⟨tab, la, at_, wr, ve + 1, fs, ft, rfl, by omega, by omega, m3, m4, m5, la_up m6⟩, ⟨n0, n1, n2, n3, n4, ⟨_, rfl, fun k hk => ?_⟩, n6, n7, n8, n9⟩, q1, q2, q3, q4⟩, rfl, (fun k hk => by rw [ab_set_ne (by omega), ab_set_ne (by omega)])⟩
      · try subst_vars
        unfold sp_wont
        repeat' split
        all_goals first
          | rfl
          | (exact absurd (of_decide_eq_true (ab_bl_1.mp c5)) (by assumption))
          | (exfalso; (try simp only [ab_bl_0, ab_bl_1, Bool.and_eq_true, Bool.and_eq_false_iff, Bool.not_eq_true', Bool.not_eq_false', decide_eq_true_eq, decide_eq_false_iff_not] at *); (try simp only [fa_lt, fa_le, fa_eq, ir, ti0, ti1, ti2, ti3, ti4, ti6, ti9, ti20, ti64, tim1, Int32.toInt_zero, Int32.toInt_one, true_and, and_true, false_and, and_false, not_true_eq_false, not_false_eq_true, false_or, or_false, i64_toInt, tl0, tl1, tl2, tl3, tl4, tl9, tl19, tl63, hnT] at *) <;> omega)
          | (simp only [cl_nI (show j < 2 ^ 31 by omega), am j (by omega)])
      · have hk : k < N_n (S_N S) := hk
        have hb := bt_bits _ hw6 j (by omega) k (by omega)
        show upd gm j _ k = nI (bt (N_w (S_N S)) j (!decide (b = 0)) / 2 ^ k % 2)
        simp only [c23, decide_true, decide_false, Bool.not_true, Bool.not_false, hb.1, hb.2]
        by_cases e : k = j
        · subst e; rw [pk_us, if_pos rfl]
        · rw [pk_un e, if_neg e]; exact am k hk
  · refine aw_iconst (v := (-1)) d_M_wont_8 (by decide) ?_
    refine aw_ireturn d_M_wont_9 rfl rfl ?_
    refine ⟨_, S, rfl, ?_, ⟨⟨tab, la, at_, wr, ve, fs, ft, m0, by omega, by omega, m3, m4, m5, m6⟩, ⟨n0, n1, n2, n3, n4, n5, n6, n7, n8, n9⟩, q1, q2, q3, q4⟩, rfl, fun k _ => rfl⟩
    try subst_vars
    unfold sp_wont
    repeat' split
    all_goals first
      | rfl
      | (exfalso; (try simp only [ab_bl_0, ab_bl_1, Bool.and_eq_true, Bool.and_eq_false_iff, Bool.not_eq_true', Bool.not_eq_false', decide_eq_true_eq, decide_eq_false_iff_not] at *); (try simp only [fa_lt, fa_le, fa_eq, ir, ti0, ti1, ti2, ti3, ti4, ti6, ti9, ti20, ti64, tim1, Int32.toInt_zero, Int32.toInt_one, true_and, and_true, false_and, and_false, not_true_eq_false, not_false_eq_true, false_or, or_false, i64_toInt, tl0, tl1, tl2, tl3, tl4, tl9, tl19, tl63, hnT] at *) <;> omega)
      | (fail)
theorem y_inn {V : VV} {m c : Nat} {h : ab_H} {S : SS} (hM : PM V c h S) (ok : S_ok S) (hc : c < 900)  (x y : Int32) : CM V Y_M_inn [.int x, .int y] m c h (fun r S2 => (r, S2) = sp_inn S x y) := by
  obtain ⟨⟨tab, la, at_, wr, ve, fs, ft, m0, m1, m2, m3, m4, m5, m6⟩, ⟨n0, n1, n2, n3, n4, n5, n6, n7, n8, n9⟩, q1, q2, q3, q4⟩ := id hM
  have hn6 : N_n (S_N S) ≤ 6 := ok.1.1
  have hnT := nI_toInt (show N_n (S_N S) < 2 ^ 31 by omega)
  refine ab_C.of (L := [some (.ref 56), some (.int x), some (.int y)]) rfl rfl (Nat.le_of_ble_eq_true rfl) (fun l => ?_)
  obtain ⟨gm, hm, am⟩ := id n7
  obtain ⟨gk, hk, ak⟩ := id n8
  have hs4 : N_ns (S_N S) ≤ 4 := ok.1.2.2.2.2.2.2.2.2.1
  have hsT := nI_toInt (show N_ns (S_N S) < 2 ^ 31 by omega)
  refine aw_iload_n d_M_inn_0 rfl ?_
  refine aw_iload_n d_M_inn_1 rfl ?_
  refine aw_s0i d_M_inn_2 k_M_127 ok_M_isAt rfl ⟨rfl, rfl⟩ (c_M_isAt x y) rfl rfl (Nat.le_of_ble_eq_true rfl) ?_
  refine aw_if_ne (tgt := 10) d_M_inn_5 (by decide) (fun c5 => ?_) (fun c5 => ?_)
  · refine aw_aload_n d_M_inn_10 rfl ?_
    refine aw_get (k := 8) d_M_inn_11 cl_Model k_M_174 (by decide) m0 rfl ?_
    refine aw_iconst (v := nI 4) d_M_inn_14 (by decide) ?_
    refine aw_icmp_ne (tgt := 21) d_M_inn_15 (by decide) (fun c15 => ?_) (fun c15 => ?_)
    · have hxy := of_decide_eq_true (ab_bl_1.mp c5)
      obtain ⟨u, hu, rfl⟩ := irC (n := 19) hxy.1
      obtain ⟨v, hv, rfl⟩ := irC (n := 19) hxy.2
      have hs : N_ns (S_N S) < 4 := by rw [fa_eq, hsT] at c15; simp only [ti4] at c15; omega
      refine aw_aload_n d_M_inn_21 rfl ?_
      refine aw_get (k := 9) d_M_inn_22 cl_Model k_M_31 (by decide) m0 rfl ?_
      refine aw_aload_n d_M_inn_25 rfl ?_
      refine aw_get (k := 8) d_M_inn_26 cl_Model k_M_174 (by decide) m0 rfl ?_
      refine aw_iload_n d_M_inn_29 rfl ?_
      refine aw_iastoreN d_M_inn_30 hm (by omega) (by decide) ?_
      refine aw_aload_n d_M_inn_31 rfl ?_
      refine aw_get (k := 10) d_M_inn_32 cl_Model k_M_34 (by decide) m0 rfl ?_
      refine aw_aload_n d_M_inn_35 rfl ?_
      refine aw_get (k := 8) d_M_inn_36 cl_Model k_M_174 (by decide) m0 rfl ?_
      refine aw_iload_n d_M_inn_39 rfl ?_
      refine aw_iastoreN d_M_inn_40 hk (by omega) (by decide) ?_
      refine aw_aload_n d_M_inn_41 rfl ?_
      refine aw_dup d_M_inn_42 rfl ?_
      refine aw_get (k := 8) d_M_inn_43 cl_Model k_M_174 (by decide) m0 rfl ?_
      refine aw_iconst (v := nI 1) d_M_inn_46 (by decide) ?_
      refine aw_iadd d_M_inn_47 ?_
      rw [nI_add]
      refine aw_put (k := 8) (fs' := [.int (nI (N_n (S_N S))), .ref 57, .ref 58, .ref 59, .ref 60, .ref 61, .ref 62, .ref 63, .int (nI (N_ns (S_N S) + 1)), .ref 64, .ref 65, .int (nI (N_ra (S_N S))), .int (nI (N_se (S_N S))), .int (N_me (S_N S)), .int (N_mi (S_N S)), .ref 66, .ref 67, .int tab, .ref 68, .ref 69, .ref 70, .ref 71, .ref 72, .ref 73, .ref 74, .int (nI ve), .int la, .ref 75, .ref 76, .int (nI (S_tl S)), .int at_, .int wr, .ref 77, .ref 78, .int (nI (N_fe (S_N S))), .ref 79, .ref 80, .ref 81, .ref 82, .ref 83, .ref 84, .int (ab_bl (S_K S).isSome), .ref 85, .ref 86, .ref 87, .ref 88]) d_M_inn_48 cl_Model k_M_174 (by decide) rfl ⟨rfl, rfl⟩ m0 (Nat.le_of_ble_eq_true rfl) rfl ?_
      refine aw_aload_n d_M_inn_51 rfl ?_
      refine aw_dup d_M_inn_52 rfl ?_
      refine aw_get (k := 25) d_M_inn_53 cl_Model k_M_133 (by decide) rfl rfl ?_
      refine aw_iconst (v := nI 1) d_M_inn_56 (by decide) ?_
      refine aw_iadd d_M_inn_57 ?_
      rw [nI_add]
      refine aw_put (k := 25) (fs' := [.int (nI (N_n (S_N S))), .ref 57, .ref 58, .ref 59, .ref 60, .ref 61, .ref 62, .ref 63, .int (nI (N_ns (S_N S) + 1)), .ref 64, .ref 65, .int (nI (N_ra (S_N S))), .int (nI (N_se (S_N S))), .int (N_me (S_N S)), .int (N_mi (S_N S)), .ref 66, .ref 67, .int tab, .ref 68, .ref 69, .ref 70, .ref 71, .ref 72, .ref 73, .ref 74, .int (nI (ve + 1)), .int la, .ref 75, .ref 76, .int (nI (S_tl S)), .int at_, .int wr, .ref 77, .ref 78, .int (nI (N_fe (S_N S))), .ref 79, .ref 80, .ref 81, .ref 82, .ref 83, .ref 84, .int (ab_bl (S_K S).isSome), .ref 85, .ref 86, .ref 87, .ref 88]) d_M_inn_58 cl_Model k_M_133 (by decide) rfl ⟨rfl, rfl⟩ rfl (Nat.le_of_ble_eq_true rfl) rfl ?_
      refine aw_aload_n d_M_inn_61 rfl ?_
      refine aw_get (k := 8) d_M_inn_62 cl_Model k_M_174 (by decide) rfl rfl ?_
      refine aw_iconst (v := nI 1) d_M_inn_65 (by decide) ?_
      refine aw_isub d_M_inn_66 ?_
      rw [show nI (N_ns (S_N S) + 1) - nI 1 = nI (N_ns (S_N S)) from nI_pred _]
      refine aw_ireturn d_M_inn_67 rfl rfl ?_
      refine ⟨_, S_N_ S (N_ns_ (N_ix_ (N_iy_ (S_N S) (ud (N_iy (S_N S)) (N_ns (S_N S)) v)) (ud (N_ix (S_N S)) (N_ns (S_N S)) u)) (N_ns (S_N S) + 1)), rfl, ?_, ⟨⟨tab, la, at_, wr, ve + 1, fs, ft, rfl, by omega, by omega, m3, m4, m5, la_up m6⟩, ⟨n0, n1, n2, n3, n4, n5, n6, rw_.up2 rfl am, rw_.up2 rfl ak, n9⟩, q1, q2, q3, q4⟩, rfl, (fun k hk => by rw [ab_set_ne (by omega), ab_set_ne (by omega), ab_set_ne (by omega), ab_set_ne (by omega)])⟩
      try subst_vars
      unfold sp_inn
      repeat' split
      all_goals first
        | rfl
        | (exfalso; (try simp only [ab_bl_0, ab_bl_1, Bool.and_eq_true, Bool.and_eq_false_iff, Bool.not_eq_true', Bool.not_eq_false', decide_eq_true_eq, decide_eq_false_iff_not] at *); (try simp only [fa_lt, fa_le, fa_eq, ir, ti0, ti1, ti2, ti3, ti4, ti6, ti9, ti20, ti64, tim1, Int32.toInt_zero, Int32.toInt_one, true_and, and_true, false_and, and_false, not_true_eq_false, not_false_eq_true, false_or, or_false, i64_toInt, tl0, tl1, tl2, tl3, tl4, tl9, tl19, tl63, hnT, hsT] at *) <;> omega)
        | (simp only [cl_nI (show u < 2 ^ 31 by omega), cl_nI (show v < 2 ^ 31 by omega)])
    · refine aw_bipush (v := (-3)) d_M_inn_18 (by decide) ?_
      refine aw_ireturn d_M_inn_20 rfl rfl ?_
      refine ⟨_, S, rfl, ?_, ⟨⟨tab, la, at_, wr, ve, fs, ft, m0, by omega, by omega, m3, m4, m5, m6⟩, ⟨n0, n1, n2, n3, n4, n5, n6, n7, n8, n9⟩, q1, q2, q3, q4⟩, rfl, fun k _ => rfl⟩
      try subst_vars
      unfold sp_inn
      repeat' split
      all_goals first
        | rfl
        | (exfalso; (try simp only [ab_bl_0, ab_bl_1, Bool.and_eq_true, Bool.and_eq_false_iff, Bool.not_eq_true', Bool.not_eq_false', decide_eq_true_eq, decide_eq_false_iff_not] at *); (try simp only [fa_lt, fa_le, fa_eq, ir, ti0, ti1, ti2, ti3, ti4, ti6, ti9, ti20, ti64, tim1, Int32.toInt_zero, Int32.toInt_one, true_and, and_true, false_and, and_false, not_true_eq_false, not_false_eq_true, false_or, or_false, i64_toInt, tl0, tl1, tl2, tl3, tl4, tl9, tl19, tl63, hnT, hsT] at *) <;> omega)
        | (fail)
  · refine aw_iconst (v := (-1)) d_M_inn_8 (by decide) ?_
    refine aw_ireturn d_M_inn_9 rfl rfl ?_
    refine ⟨_, S, rfl, ?_, ⟨⟨tab, la, at_, wr, ve, fs, ft, m0, by omega, by omega, m3, m4, m5, m6⟩, ⟨n0, n1, n2, n3, n4, n5, n6, n7, n8, n9⟩, q1, q2, q3, q4⟩, rfl, fun k _ => rfl⟩
    try subst_vars
    unfold sp_inn
    repeat' split
    all_goals first
      | rfl
      | (exfalso; (try simp only [ab_bl_0, ab_bl_1, Bool.and_eq_true, Bool.and_eq_false_iff, Bool.not_eq_true', Bool.not_eq_false', decide_eq_true_eq, decide_eq_false_iff_not] at *); (try simp only [fa_lt, fa_le, fa_eq, ir, ti0, ti1, ti2, ti3, ti4, ti6, ti9, ti20, ti64, tim1, Int32.toInt_zero, Int32.toInt_one, true_and, and_true, false_and, and_false, not_true_eq_false, not_false_eq_true, false_or, or_false, i64_toInt, tl0, tl1, tl2, tl3, tl4, tl9, tl19, tl63, hnT, hsT] at *) <;> omega)
      | (fail)
