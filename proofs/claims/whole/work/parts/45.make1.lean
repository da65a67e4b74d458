theorem ins_Coat : Cond.instantiable "CoatRings" 12 ∈ lw_tbl ∧ goodWord (.instantiable "CoatRings" 12) = true := ⟨tb1 19 rfl, rfl⟩
theorem ini_Coat : Cond.initialized "CoatRings" ∈ lw_tbl ∧ goodWord (.initialized "CoatRings") = true := ⟨tb1 1 rfl, rfl⟩
theorem ins_Night : Cond.instantiable "CoatRings$Night" 17 ∈ lw_tbl ∧ goodWord (.instantiable "CoatRings$Night" 17) = true := ⟨tb1 27 rfl, rfl⟩
theorem ini_Night : Cond.initialized "CoatRings$Night" ∈ lw_tbl ∧ goodWord (.initialized "CoatRings$Night") = true := ⟨tb1 2 rfl, rfl⟩
theorem ins_Tape : Cond.instantiable "CoatRings$Tape" 4 ∈ lw_tbl ∧ goodWord (.instantiable "CoatRings$Tape" 4) = true := ⟨tb1 128 rfl, rfl⟩
theorem ini_Tape : Cond.initialized "CoatRings$Tape" ∈ lw_tbl ∧ goodWord (.initialized "CoatRings$Tape") = true := ⟨tb1 4 rfl, rfl⟩
theorem ins_Sheets : Cond.instantiable "CoatRings$Sheets" 3 ∈ lw_tbl ∧ goodWord (.instantiable "CoatRings$Sheets" 3) = true := ⟨tb1 148 rfl, rfl⟩
theorem ini_Sheets : Cond.initialized "CoatRings$Sheets" ∈ lw_tbl ∧ goodWord (.initialized "CoatRings$Sheets") = true := ⟨tb1 5 rfl, rfl⟩
theorem ins_Givings : Cond.instantiable "CoatRings$Givings" 2 ∈ lw_tbl ∧ goodWord (.instantiable "CoatRings$Givings" 2) = true := ⟨tb1 170 rfl, rfl⟩
theorem ini_Givings : Cond.initialized "CoatRings$Givings" ∈ lw_tbl ∧ goodWord (.initialized "CoatRings$Givings") = true := ⟨tb1 6 rfl, rfl⟩
theorem ins_Planner : Cond.instantiable "CoatRings$Planner" 15 ∈ lw_tbl ∧ goodWord (.instantiable "CoatRings$Planner" 15) = true := ⟨tb1 183 rfl, rfl⟩
theorem ini_Planner : Cond.initialized "CoatRings$Planner" ∈ lw_tbl ∧ goodWord (.initialized "CoatRings$Planner") = true := ⟨tb1 7 rfl, rfl⟩
theorem ins_Heap : Cond.instantiable "CoatRings$Heap" 4 ∈ lw_tbl ∧ goodWord (.instantiable "CoatRings$Heap" 4) = true := ⟨tb1 189 rfl, rfl⟩
theorem ini_Heap : Cond.initialized "CoatRings$Heap" ∈ lw_tbl ∧ goodWord (.initialized "CoatRings$Heap") = true := ⟨tb1 8 rfl, rfl⟩
theorem ins_Days : Cond.instantiable "CoatRings$Days" 5 ∈ lw_tbl ∧ goodWord (.instantiable "CoatRings$Days" 5) = true := ⟨tb2 20 rfl, rfl⟩
theorem ini_Days : Cond.initialized "CoatRings$Days" ∈ lw_tbl ∧ goodWord (.initialized "CoatRings$Days") = true := ⟨tb1 9 rfl, rfl⟩
theorem ins_Rail : Cond.instantiable "CoatRings$Rail" 6 ∈ lw_tbl ∧ goodWord (.instantiable "CoatRings$Rail" 6) = true := ⟨tb2 59 rfl, rfl⟩
theorem ini_Rail : Cond.initialized "CoatRings$Rail" ∈ lw_tbl ∧ goodWord (.initialized "CoatRings$Rail") = true := ⟨tb1 11 rfl, rfl⟩
theorem ins_Slips : Cond.instantiable "CoatRings$Slips" 7 ∈ lw_tbl ∧ goodWord (.instantiable "CoatRings$Slips" 7) = true := ⟨tb4 53 rfl, rfl⟩
theorem ini_Slips : Cond.initialized "CoatRings$Slips" ∈ lw_tbl ∧ goodWord (.initialized "CoatRings$Slips") = true := ⟨tb1 17 rfl, rfl⟩
theorem ins_Model : Cond.instantiable "CoatRingsModel" 46 ∈ lw_tbl ∧ goodWord (.instantiable "CoatRingsModel" 46) = true := ⟨tb5 1 rfl, rfl⟩
theorem ini_Model : Cond.initialized "CoatRingsModel" ∈ lw_tbl ∧ goodWord (.initialized "CoatRingsModel") = true := ⟨tb1 12 rfl, rfl⟩
/-- a night that has just begun -/
def N0 : NS := (0, fun k => k, 0, fun _ => 0, fun _ => 0, fun _ => 0, fun _ => 5, fun _ => 0, 0, fun _ => 0, fun _ => 0, 2, 3, 0, 0, 0, fun _ => 0)
theorem N0_ok : N_ok N0 := by
  refine ⟨by decide, fun k hk => hk, fun _ _ => rfl, fun i j _ _ e => e, by decide, fun k _ => ⟨show 0 < 20 by decide, show 0 < 20 by decide, show 0 < 64 by decide⟩, fun k _ => (show 5 < 10 by decide), fun k hk => absurd hk (Nat.not_lt_zero _), by decide, fun k _ => ⟨show 0 < 20 by decide, show 0 < 20 by decide⟩, by decide, by decide, by decide, by decide, by decide, fun k hk => absurd hk (Nat.not_lt_zero _)⟩
theorem c_Night_init_2 {h : ab_H} (h0 : h 2 = .inr (.inr (1, [.int 0, .null, .null, .null, .null, .null, .int 0, .int 0, .int 0, .null, .null, .int 0, .int 0, .int 0, .int 0, .int 0, .null]))) : ab_C Y_Night_init [.ref 2] 2 h (fun r m2 h2 => r = none ∧ m2 = 10 ∧ NX h2 2 N0 ∧ ∀ k, (k < 2 ∨ 10 < k) → h2 k = h k) := by
  refine ab_C.of (L := [some (.ref 2)]) rfl rfl (Nat.le_of_ble_eq_true rfl) (fun l => ?_)
  refine aw_aload_n d_Night_init_0 rfl ?_
  refine aw_objinit d_Night_init_1 k_Night_3 ⟨by decide, Nat.le_of_ble_eq_true rfl⟩ ?_
  refine aw_aload_n d_Night_init_4 rfl ?_
  refine aw_bipush (v := nI 6) d_Night_init_5 (by decide) ?_
  refine aw_newarray (N := 6) d_Night_init_7 (by decide) (by decide) (by decide) ⟨by decide, by decide⟩ ?_
  refine aw_putF (k := 1) (fs' := [.int 0, .ref 3, .null, .null, .null, .null, .int 0, .int 0, .int 0, .null, .null, .int 0, .int 0, .int 0, .int 0, .int 0, .null]) d_Night_init_9 cl_Night k_Night_9 (by decide) rfl rfl rfl ⟨rfl, rfl⟩ h0 (Nat.le_of_ble_eq_true rfl) rfl ?_
  refine aw_aload_n d_Night_init_12 rfl ?_
  refine aw_bipush (v := nI 6) d_Night_init_13 (by decide) ?_
  refine aw_newarray (N := 6) d_Night_init_15 (by decide) (by decide) (by decide) ⟨by decide, by decide⟩ ?_
  refine aw_putF (k := 2) (fs' := [.int 0, .ref 3, .ref 4, .null, .null, .null, .int 0, .int 0, .int 0, .null, .null, .int 0, .int 0, .int 0, .int 0, .int 0, .null]) d_Night_init_17 cl_Night k_Night_15 (by decide) rfl rfl rfl ⟨rfl, rfl⟩ rfl (Nat.le_of_ble_eq_true rfl) rfl ?_
  refine aw_aload_n d_Night_init_20 rfl ?_
  refine aw_bipush (v := nI 6) d_Night_init_21 (by decide) ?_
  refine aw_newarray (N := 6) d_Night_init_23 (by decide) (by decide) (by decide) ⟨by decide, by decide⟩ ?_
  refine aw_putF (k := 3) (fs' := [.int 0, .ref 3, .ref 4, .ref 5, .null, .null, .int 0, .int 0, .int 0, .null, .null, .int 0, .int 0, .int 0, .int 0, .int 0, .null]) d_Night_init_25 cl_Night k_Night_18 (by decide) rfl rfl rfl ⟨rfl, rfl⟩ rfl (Nat.le_of_ble_eq_true rfl) rfl ?_
  refine aw_aload_n d_Night_init_28 rfl ?_
  refine aw_bipush (v := nI 36) d_Night_init_29 (by decide) ?_
  refine aw_newarray (N := 36) d_Night_init_31 (by decide) (by decide) (by decide) ⟨by decide, by decide⟩ ?_
  refine aw_putF (k := 4) (fs' := [.int 0, .ref 3, .ref 4, .ref 5, .ref 6, .null, .int 0, .int 0, .int 0, .null, .null, .int 0, .int 0, .int 0, .int 0, .int 0, .null]) d_Night_init_33 cl_Night k_Night_21 (by decide) rfl rfl rfl ⟨rfl, rfl⟩ rfl (Nat.le_of_ble_eq_true rfl) rfl ?_
  refine aw_aload_n d_Night_init_36 rfl ?_
  refine aw_bipush (v := nI 6) d_Night_init_37 (by decide) ?_
  refine aw_newarray (N := 6) d_Night_init_39 (by decide) (by decide) (by decide) ⟨by decide, by decide⟩ ?_
  refine aw_putF (k := 5) (fs' := [.int 0, .ref 3, .ref 4, .ref 5, .ref 6, .ref 7, .int 0, .int 0, .int 0, .null, .null, .int 0, .int 0, .int 0, .int 0, .int 0, .null]) d_Night_init_41 cl_Night k_Night_24 (by decide) rfl rfl rfl ⟨rfl, rfl⟩ rfl (Nat.le_of_ble_eq_true rfl) rfl ?_
  refine aw_aload_n d_Night_init_44 rfl ?_
  refine aw_ldc (v := nI 181896) d_Night_init_45 k_Night_29 ?_
  refine aw_put (k := 6) (fs' := [.int 0, .ref 3, .ref 4, .ref 5, .ref 6, .ref 7, .int (nI 181896), .int 0, .int 0, .null, .null, .int 0, .int 0, .int 0, .int 0, .int 0, .null]) d_Night_init_47 cl_Night k_Night_30 (by decide) rfl ⟨rfl, rfl⟩ rfl (Nat.le_of_ble_eq_true rfl) rfl ?_
  refine aw_aload_n d_Night_init_50 rfl ?_
  refine aw_iconst (v := nI 4) d_Night_init_51 (by decide) ?_
  refine aw_newarray (N := 4) d_Night_init_52 (by decide) (by decide) (by decide) ⟨by decide, by decide⟩ ?_
  refine aw_putF (k := 9) (fs' := [.int 0, .ref 3, .ref 4, .ref 5, .ref 6, .ref 7, .int (nI 181896), .int 0, .int 0, .ref 8, .null, .int 0, .int 0, .int 0, .int 0, .int 0, .null]) d_Night_init_54 cl_Night k_Night_34 (by decide) rfl rfl rfl ⟨rfl, rfl⟩ rfl (Nat.le_of_ble_eq_true rfl) rfl ?_
  refine aw_aload_n d_Night_init_57 rfl ?_
  refine aw_iconst (v := nI 4) d_Night_init_58 (by decide) ?_
  refine aw_newarray (N := 4) d_Night_init_59 (by decide) (by decide) (by decide) ⟨by decide, by decide⟩ ?_
  refine aw_putF (k := 10) (fs' := [.int 0, .ref 3, .ref 4, .ref 5, .ref 6, .ref 7, .int (nI 181896), .int 0, .int 0, .ref 8, .ref 9, .int 0, .int 0, .int 0, .int 0, .int 0, .null]) d_Night_init_61 cl_Night k_Night_37 (by decide) rfl rfl rfl ⟨rfl, rfl⟩ rfl (Nat.le_of_ble_eq_true rfl) rfl ?_
  refine aw_aload_n d_Night_init_64 rfl ?_
  refine aw_iconst (v := nI 2) d_Night_init_65 (by decide) ?_
  refine aw_put (k := 11) (fs' := [.int 0, .ref 3, .ref 4, .ref 5, .ref 6, .ref 7, .int (nI 181896), .int 0, .int 0, .ref 8, .ref 9, .int (nI 2), .int 0, .int 0, .int 0, .int 0, .null]) d_Night_init_66 cl_Night k_Night_40 (by decide) rfl ⟨rfl, rfl⟩ rfl (Nat.le_of_ble_eq_true rfl) rfl ?_
  refine aw_aload_n d_Night_init_69 rfl ?_
  refine aw_iconst (v := nI 3) d_Night_init_70 (by decide) ?_
  refine aw_put (k := 12) (fs' := [.int 0, .ref 3, .ref 4, .ref 5, .ref 6, .ref 7, .int (nI 181896), .int 0, .int 0, .ref 8, .ref 9, .int (nI 2), .int (nI 3), .int 0, .int 0, .int 0, .null]) d_Night_init_71 cl_Night k_Night_43 (by decide) rfl ⟨rfl, rfl⟩ rfl (Nat.le_of_ble_eq_true rfl) rfl ?_
  refine aw_aload_n d_Night_init_74 rfl ?_
  refine aw_bipush (v := nI 6) d_Night_init_75 (by decide) ?_
  refine aw_newarray (N := 6) d_Night_init_77 (by decide) (by decide) (by decide) ⟨by decide, by decide⟩ ?_
  refine aw_putF (k := 16) (fs' := [.int 0, .ref 3, .ref 4, .ref 5, .ref 6, .ref 7, .int (nI 181896), .int 0, .int 0, .ref 8, .ref 9, .int (nI 2), .int (nI 3), .int 0, .int 0, .int 0, .ref 10]) d_Night_init_79 cl_Night k_Night_46 (by decide) rfl rfl rfl ⟨rfl, rfl⟩ rfl (Nat.le_of_ble_eq_true rfl) rfl ?_
  refine aw_aload_n d_Night_init_82 rfl ?_
  refine aw_get (k := 4) d_Night_init_83 cl_Night k_Night_21 (by decide) rfl rfl ?_
  refine aw_iconst (v := nI 5) d_Night_init_86 (by decide) ?_
  refine aw_s0v d_Night_init_87 k_Night_49 ok_JA_fill rfl ⟨rfl, rfl⟩ (c_fill (a := 6) rfl (by decide) (nI 5)) rfl rfl (Nat.le_of_ble_eq_true rfl) ?_
  refine aw_aload_n d_Night_init_90 rfl ?_
  refine aw_get (k := 5) d_Night_init_91 cl_Night k_Night_24 (by decide) rfl rfl ?_
  refine aw_bipush (v := nI 63) d_Night_init_94 (by decide) ?_
  refine aw_s0v d_Night_init_96 k_Night_49 ok_JA_fill rfl ⟨rfl, rfl⟩ (c_fill (a := 7) rfl (by decide) (nI 63)) rfl rfl (Nat.le_of_ble_eq_true rfl) ?_
  refine aw_return d_Night_init_99 rfl ?_
  refine ⟨rfl, rfl, ⟨rfl, ⟨_, rfl, fun k hk => rfl⟩, ⟨_, rfl, fun k hk => rfl⟩, ⟨_, rfl, fun k hk => rfl⟩, ⟨_, rfl, fun k hk => fa_fill_in hk⟩, ⟨_, rfl, fun k hk => absurd hk (Nat.not_lt_zero _)⟩, ⟨_, rfl, fun k hk => rfl⟩, ⟨_, rfl, fun k hk => rfl⟩, ⟨_, rfl, fun k hk => rfl⟩⟩, fun k hk => by simp only [ab_set]; repeat rw [if_neg (by omega)]⟩
theorem c_Night_init_11 {h : ab_H} (h0 : h 11 = .inr (.inr (1, [.int 0, .null, .null, .null, .null, .null, .int 0, .int 0, .int 0, .null, .null, .int 0, .int 0, .int 0, .int 0, .int 0, .null]))) : ab_C Y_Night_init [.ref 11] 11 h (fun r m2 h2 => r = none ∧ m2 = 19 ∧ NX h2 11 N0 ∧ ∀ k, (k < 11 ∨ 19 < k) → h2 k = h k) := by
  refine ab_C.of (L := [some (.ref 11)]) rfl rfl (Nat.le_of_ble_eq_true rfl) (fun l => ?_)
  refine aw_aload_n d_Night_init_0 rfl ?_
  refine aw_objinit d_Night_init_1 k_Night_3 ⟨by decide, Nat.le_of_ble_eq_true rfl⟩ ?_
  refine aw_aload_n d_Night_init_4 rfl ?_
  refine aw_bipush (v := nI 6) d_Night_init_5 (by decide) ?_
  refine aw_newarray (N := 6) d_Night_init_7 (by decide) (by decide) (by decide) ⟨by decide, by decide⟩ ?_
  refine aw_putF (k := 1) (fs' := [.int 0, .ref 12, .null, .null, .null, .null, .int 0, .int 0, .int 0, .null, .null, .int 0, .int 0, .int 0, .int 0, .int 0, .null]) d_Night_init_9 cl_Night k_Night_9 (by decide) rfl rfl rfl ⟨rfl, rfl⟩ h0 (Nat.le_of_ble_eq_true rfl) rfl ?_
  refine aw_aload_n d_Night_init_12 rfl ?_
  refine aw_bipush (v := nI 6) d_Night_init_13 (by decide) ?_
  refine aw_newarray (N := 6) d_Night_init_15 (by decide) (by decide) (by decide) ⟨by decide, by decide⟩ ?_
  refine aw_putF (k := 2) (fs' := [.int 0, .ref 12, .ref 13, .null, .null, .null, .int 0, .int 0, .int 0, .null, .null, .int 0, .int 0, .int 0, .int 0, .int 0, .null]) d_Night_init_17 cl_Night k_Night_15 (by decide) rfl rfl rfl ⟨rfl, rfl⟩ rfl (Nat.le_of_ble_eq_true rfl) rfl ?_
  refine aw_aload_n d_Night_init_20 rfl ?_
  refine aw_bipush (v := nI 6) d_Night_init_21 (by decide) ?_
  refine aw_newarray (N := 6) d_Night_init_23 (by decide) (by decide) (by decide) ⟨by decide, by decide⟩ ?_
  refine aw_putF (k := 3) (fs' := [.int 0, .ref 12, .ref 13, .ref 14, .null, .null, .int 0, .int 0, .int 0, .null, .null, .int 0, .int 0, .int 0, .int 0, .int 0, .null]) d_Night_init_25 cl_Night k_Night_18 (by decide) rfl rfl rfl ⟨rfl, rfl⟩ rfl (Nat.le_of_ble_eq_true rfl) rfl ?_
  refine aw_aload_n d_Night_init_28 rfl ?_
  refine aw_bipush (v := nI 36) d_Night_init_29 (by decide) ?_
  refine aw_newarray (N := 36) d_Night_init_31 (by decide) (by decide) (by decide) ⟨by decide, by decide⟩ ?_
  refine aw_putF (k := 4) (fs' := [.int 0, .ref 12, .ref 13, .ref 14, .ref 15, .null, .int 0, .int 0, .int 0, .null, .null, .int 0, .int 0, .int 0, .int 0, .int 0, .null]) d_Night_init_33 cl_Night k_Night_21 (by decide) rfl rfl rfl ⟨rfl, rfl⟩ rfl (Nat.le_of_ble_eq_true rfl) rfl ?_
  refine aw_aload_n d_Night_init_36 rfl ?_
  refine aw_bipush (v := nI 6) d_Night_init_37 (by decide) ?_
  refine aw_newarray (N := 6) d_Night_init_39 (by decide) (by decide) (by decide) ⟨by decide, by decide⟩ ?_
  refine aw_putF (k := 5) (fs' := [.int 0, .ref 12, .ref 13, .ref 14, .ref 15, .ref 16, .int 0, .int 0, .int 0, .null, .null, .int 0, .int 0, .int 0, .int 0, .int 0, .null]) d_Night_init_41 cl_Night k_Night_24 (by decide) rfl rfl rfl ⟨rfl, rfl⟩ rfl (Nat.le_of_ble_eq_true rfl) rfl ?_
  refine aw_aload_n d_Night_init_44 rfl ?_
  refine aw_ldc (v := nI 181896) d_Night_init_45 k_Night_29 ?_
  refine aw_put (k := 6) (fs' := [.int 0, .ref 12, .ref 13, .ref 14, .ref 15, .ref 16, .int (nI 181896), .int 0, .int 0, .null, .null, .int 0, .int 0, .int 0, .int 0, .int 0, .null]) d_Night_init_47 cl_Night k_Night_30 (by decide) rfl ⟨rfl, rfl⟩ rfl (Nat.le_of_ble_eq_true rfl) rfl ?_
  refine aw_aload_n d_Night_init_50 rfl ?_
  refine aw_iconst (v := nI 4) d_Night_init_51 (by decide) ?_
  refine aw_newarray (N := 4) d_Night_init_52 (by decide) (by decide) (by decide) ⟨by decide, by decide⟩ ?_
  refine aw_putF (k := 9) (fs' := [.int 0, .ref 12, .ref 13, .ref 14, .ref 15, .ref 16, .int (nI 181896), .int 0, .int 0, .ref 17, .null, .int 0, .int 0, .int 0, .int 0, .int 0, .null]) d_Night_init_54 cl_Night k_Night_34 (by decide) rfl rfl rfl ⟨rfl, rfl⟩ rfl (Nat.le_of_ble_eq_true rfl) rfl ?_
  refine aw_aload_n d_Night_init_57 rfl ?_
  refine aw_iconst (v := nI 4) d_Night_init_58 (by decide) ?_
  refine aw_newarray (N := 4) d_Night_init_59 (by decide) (by decide) (by decide) ⟨by decide, by decide⟩ ?_
  refine aw_putF (k := 10) (fs' := [.int 0, .ref 12, .ref 13, .ref 14, .ref 15, .ref 16, .int (nI 181896), .int 0, .int 0, .ref 17, .ref 18, .int 0, .int 0, .int 0, .int 0, .int 0, .null]) d_Night_init_61 cl_Night k_Night_37 (by decide) rfl rfl rfl ⟨rfl, rfl⟩ rfl (Nat.le_of_ble_eq_true rfl) rfl ?_
  refine aw_aload_n d_Night_init_64 rfl ?_
  refine aw_iconst (v := nI 2) d_Night_init_65 (by decide) ?_
  refine aw_put (k := 11) (fs' := [.int 0, .ref 12, .ref 13, .ref 14, .ref 15, .ref 16, .int (nI 181896), .int 0, .int 0, .ref 17, .ref 18, .int (nI 2), .int 0, .int 0, .int 0, .int 0, .null]) d_Night_init_66 cl_Night k_Night_40 (by decide) rfl ⟨rfl, rfl⟩ rfl (Nat.le_of_ble_eq_true rfl) rfl ?_
  refine aw_aload_n d_Night_init_69 rfl ?_
  refine aw_iconst (v := nI 3) d_Night_init_70 (by decide) ?_
  refine aw_put (k := 12) (fs' := [.int 0, .ref 12, .ref 13, .ref 14, .ref 15, .ref 16, .int (nI 181896), .int 0, .int 0, .ref 17, .ref 18, .int (nI 2), .int (nI 3), .int 0, .int 0, .int 0, .null]) d_Night_init_71 cl_Night k_Night_43 (by decide) rfl ⟨rfl, rfl⟩ rfl (Nat.le_of_ble_eq_true rfl) rfl ?_
  refine aw_aload_n d_Night_init_74 rfl ?_
  refine aw_bipush (v := nI 6) d_Night_init_75 (by decide) ?_
  refine aw_newarray (N := 6) d_Night_init_77 (by decide) (by decide) (by decide) ⟨by decide, by decide⟩ ?_
  refine aw_putF (k := 16) (fs' := [.int 0, .ref 12, .ref 13, .ref 14, .ref 15, .ref 16, .int (nI 181896), .int 0, .int 0, .ref 17, .ref 18, .int (nI 2), .int (nI 3), .int 0, .int 0, .int 0, .ref 19]) d_Night_init_79 cl_Night k_Night_46 (by decide) rfl rfl rfl ⟨rfl, rfl⟩ rfl (Nat.le_of_ble_eq_true rfl) rfl ?_
  refine aw_aload_n d_Night_init_82 rfl ?_
  refine aw_get (k := 4) d_Night_init_83 cl_Night k_Night_21 (by decide) rfl rfl ?_
  refine aw_iconst (v := nI 5) d_Night_init_86 (by decide) ?_
  refine aw_s0v d_Night_init_87 k_Night_49 ok_JA_fill rfl ⟨rfl, rfl⟩ (c_fill (a := 15) rfl (by decide) (nI 5)) rfl rfl (Nat.le_of_ble_eq_true rfl) ?_
  refine aw_aload_n d_Night_init_90 rfl ?_
  refine aw_get (k := 5) d_Night_init_91 cl_Night k_Night_24 (by decide) rfl rfl ?_
  refine aw_bipush (v := nI 63) d_Night_init_94 (by decide) ?_
  refine aw_s0v d_Night_init_96 k_Night_49 ok_JA_fill rfl ⟨rfl, rfl⟩ (c_fill (a := 16) rfl (by decide) (nI 63)) rfl rfl (Nat.le_of_ble_eq_true rfl) ?_
  refine aw_return d_Night_init_99 rfl ?_
  refine ⟨rfl, rfl, ⟨rfl, ⟨_, rfl, fun k hk => rfl⟩, ⟨_, rfl, fun k hk => rfl⟩, ⟨_, rfl, fun k hk => rfl⟩, ⟨_, rfl, fun k hk => fa_fill_in hk⟩, ⟨_, rfl, fun k hk => absurd hk (Nat.not_lt_zero _)⟩, ⟨_, rfl, fun k hk => rfl⟩, ⟨_, rfl, fun k hk => rfl⟩, ⟨_, rfl, fun k hk => rfl⟩⟩, fun k hk => by simp only [ab_set]; repeat rw [if_neg (by omega)]⟩
theorem c_Tape_init {h : ab_H} (h0 : h 20 = .inr (.inr (2, [.int 0, .int 0, .null, .null]))) : ab_C Y_Tape_init [.ref 20] 20 h (fun r m2 h2 => r = none ∧ m2 = 22 ∧ (h2 20 = oT 0 0 ∧ ra_ h2 21 100 ∧ ra_ h2 22 6) ∧ ∀ k, (k < 20 ∨ 22 < k) → h2 k = h k) := by
  refine ab_C.of (L := [some (.ref 20)]) rfl rfl (Nat.le_of_ble_eq_true rfl) (fun l => ?_)
  refine aw_aload_n d_Tape_init_0 rfl ?_
  refine aw_objinit d_Tape_init_1 k_Tape_3 ⟨by decide, Nat.le_of_ble_eq_true rfl⟩ ?_
  refine aw_aload_n d_Tape_init_4 rfl ?_
  refine aw_bipush (v := nI 100) d_Tape_init_5 (by decide) ?_
  refine aw_newarray (N := 100) d_Tape_init_7 (by decide) (by decide) (by decide) ⟨by decide, by decide⟩ ?_
  refine aw_putF (k := 2) (fs' := [.int 0, .int 0, .ref 21, .null]) d_Tape_init_9 cl_Tape k_Tape_9 (by decide) rfl rfl rfl ⟨rfl, rfl⟩ h0 (Nat.le_of_ble_eq_true rfl) rfl ?_
  refine aw_aload_n d_Tape_init_12 rfl ?_
  refine aw_bipush (v := nI 6) d_Tape_init_13 (by decide) ?_
  refine aw_newarray (N := 6) d_Tape_init_15 (by decide) (by decide) (by decide) ⟨by decide, by decide⟩ ?_
  refine aw_putF (k := 3) (fs' := [.int 0, .int 0, .ref 21, .ref 22]) d_Tape_init_17 cl_Tape k_Tape_15 (by decide) rfl rfl rfl ⟨rfl, rfl⟩ rfl (Nat.le_of_ble_eq_true rfl) rfl ?_
  refine aw_return d_Tape_init_20 rfl ?_
  refine ⟨rfl, rfl, ⟨rfl, ⟨_, rfl⟩, ⟨_, rfl⟩⟩, fun k hk => by simp only [ab_set]; repeat rw [if_neg (by omega)]⟩
theorem c_Givings_init {h : ab_H} (h0 : h 32 = .inr (.inr (4, [.null, .null]))) : ab_C Y_Givings_init [.ref 32] 32 h (fun r m2 h2 => r = none ∧ m2 = 34 ∧ (h2 32 = oG ∧ ra_ h2 33 6 ∧ ra_ h2 34 64) ∧ ∀ k, (k < 32 ∨ 34 < k) → h2 k = h k) := by
  refine ab_C.of (L := [some (.ref 32)]) rfl rfl (Nat.le_of_ble_eq_true rfl) (fun l => ?_)
  refine aw_aload_n d_Givings_init_0 rfl ?_
  refine aw_objinit d_Givings_init_1 k_Givings_3 ⟨by decide, Nat.le_of_ble_eq_true rfl⟩ ?_
  refine aw_aload_n d_Givings_init_4 rfl ?_
  refine aw_bipush (v := nI 6) d_Givings_init_5 (by decide) ?_
  refine aw_newarray (N := 6) d_Givings_init_7 (by decide) (by decide) (by decide) ⟨by decide, by decide⟩ ?_
  refine aw_putF (k := 0) (fs' := [.ref 33, .null]) d_Givings_init_9 cl_Givings k_Givings_9 (by decide) rfl rfl rfl ⟨rfl, rfl⟩ h0 (Nat.le_of_ble_eq_true rfl) rfl ?_
  refine aw_aload_n d_Givings_init_12 rfl ?_
  refine aw_bipush (v := nI 64) d_Givings_init_13 (by decide) ?_
  refine aw_newarray (N := 64) d_Givings_init_15 (by decide) (by decide) (by decide) ⟨by decide, by decide⟩ ?_
  refine aw_putF (k := 1) (fs' := [.ref 33, .ref 34]) d_Givings_init_17 cl_Givings k_Givings_15 (by decide) rfl rfl rfl ⟨rfl, rfl⟩ rfl (Nat.le_of_ble_eq_true rfl) rfl ?_
  refine aw_return d_Givings_init_20 rfl ?_
  refine ⟨rfl, rfl, ⟨rfl, ⟨_, rfl⟩, ⟨_, rfl⟩⟩, fun k hk => by simp only [ab_set]; repeat rw [if_neg (by omega)]⟩
theorem c_Heap_init {h : ab_H} (h0 : h 41 = .inr (.inr (6, [.int 0, .null, .null, .null]))) : ab_C Y_Heap_init [.ref 41] 41 h (fun r m2 h2 => r = none ∧ m2 = 44 ∧ (h2 41 = oH 0 ∧ ra_ h2 42 720 ∧ ra_ h2 43 720 ∧ ra_ h2 44 720) ∧ ∀ k, (k < 41 ∨ 44 < k) → h2 k = h k) := by
  refine ab_C.of (L := [some (.ref 41)]) rfl rfl (Nat.le_of_ble_eq_true rfl) (fun l => ?_)
  refine aw_aload_n d_Heap_init_0 rfl ?_
  refine aw_objinit d_Heap_init_1 k_Heap_3 ⟨by decide, Nat.le_of_ble_eq_true rfl⟩ ?_
  refine aw_aload_n d_Heap_init_4 rfl ?_
  refine aw_sipush (v := nI 720) d_Heap_init_5 (by decide) ?_
  refine aw_newarray (N := 720) d_Heap_init_8 (by decide) (by decide) (by decide) ⟨by decide, by decide⟩ ?_
  refine aw_putF (k := 1) (fs' := [.int 0, .ref 42, .null, .null]) d_Heap_init_10 cl_Heap k_Heap_9 (by decide) rfl rfl rfl ⟨rfl, rfl⟩ h0 (Nat.le_of_ble_eq_true rfl) rfl ?_
  refine aw_aload_n d_Heap_init_13 rfl ?_
  refine aw_sipush (v := nI 720) d_Heap_init_14 (by decide) ?_
  refine aw_newarray (N := 720) d_Heap_init_17 (by decide) (by decide) (by decide) ⟨by decide, by decide⟩ ?_
  refine aw_putF (k := 2) (fs' := [.int 0, .ref 42, .ref 43, .null]) d_Heap_init_19 cl_Heap k_Heap_15 (by decide) rfl rfl rfl ⟨rfl, rfl⟩ rfl (Nat.le_of_ble_eq_true rfl) rfl ?_
  refine aw_aload_n d_Heap_init_22 rfl ?_
  refine aw_sipush (v := nI 720) d_Heap_init_23 (by decide) ?_
  refine aw_newarray (N := 720) d_Heap_init_26 (by decide) (by decide) (by decide) ⟨by decide, by decide⟩ ?_
  refine aw_putF (k := 3) (fs' := [.int 0, .ref 42, .ref 43, .ref 44]) d_Heap_init_28 cl_Heap k_Heap_18 (by decide) rfl rfl rfl ⟨rfl, rfl⟩ rfl (Nat.le_of_ble_eq_true rfl) rfl ?_
  refine aw_return d_Heap_init_31 rfl ?_
  refine ⟨rfl, rfl, ⟨rfl, ⟨_, rfl⟩, ⟨_, rfl⟩, ⟨_, rfl⟩⟩, fun k hk => by simp only [ab_set]; repeat rw [if_neg (by omega)]⟩
theorem c_Rail_init {h : ab_H} (h0 : h 50 = .inr (.inr (8, [.int 0, .int 0, .int 0, .null, .null, .null]))) : ab_C Y_Rail_init [.ref 50] 50 h (fun r m2 h2 => r = none ∧ m2 = 53 ∧ (h2 50 = oR false 0 0 ∧ ra_ h2 51 6 ∧ ra_ h2 52 6 ∧ ra_ h2 53 6) ∧ ∀ k, (k < 50 ∨ 53 < k) → h2 k = h k) := by
  refine ab_C.of (L := [some (.ref 50)]) rfl rfl (Nat.le_of_ble_eq_true rfl) (fun l => ?_)
  refine aw_aload_n d_Rail_init_0 rfl ?_
  refine aw_objinit d_Rail_init_1 k_Rail_3 ⟨by decide, Nat.le_of_ble_eq_true rfl⟩ ?_
  refine aw_aload_n d_Rail_init_4 rfl ?_
  refine aw_bipush (v := nI 6) d_Rail_init_5 (by decide) ?_
  refine aw_newarray (N := 6) d_Rail_init_7 (by decide) (by decide) (by decide) ⟨by decide, by decide⟩ ?_
  refine aw_putF (k := 3) (fs' := [.int 0, .int 0, .int 0, .ref 51, .null, .null]) d_Rail_init_9 cl_Rail k_Rail_9 (by decide) rfl rfl rfl ⟨rfl, rfl⟩ h0 (Nat.le_of_ble_eq_true rfl) rfl ?_
  refine aw_aload_n d_Rail_init_12 rfl ?_
  refine aw_bipush (v := nI 6) d_Rail_init_13 (by decide) ?_
  refine aw_newarray (N := 6) d_Rail_init_15 (by decide) (by decide) (by decide) ⟨by decide, by decide⟩ ?_
  refine aw_putF (k := 4) (fs' := [.int 0, .int 0, .int 0, .ref 51, .ref 52, .null]) d_Rail_init_17 cl_Rail k_Rail_15 (by decide) rfl rfl rfl ⟨rfl, rfl⟩ rfl (Nat.le_of_ble_eq_true rfl) rfl ?_
  refine aw_aload_n d_Rail_init_20 rfl ?_
  refine aw_bipush (v := nI 6) d_Rail_init_21 (by decide) ?_
  refine aw_newarray (N := 6) d_Rail_init_23 (by decide) (by decide) (by decide) ⟨by decide, by decide⟩ ?_
  refine aw_putF (k := 5) (fs' := [.int 0, .int 0, .int 0, .ref 51, .ref 52, .ref 53]) d_Rail_init_25 cl_Rail k_Rail_18 (by decide) rfl rfl rfl ⟨rfl, rfl⟩ rfl (Nat.le_of_ble_eq_true rfl) rfl ?_
  refine aw_return d_Rail_init_28 rfl ?_
  refine ⟨rfl, rfl, ⟨rfl, ⟨_, rfl⟩, ⟨_, rfl⟩, ⟨_, rfl⟩⟩, fun k hk => by simp only [ab_set]; repeat rw [if_neg (by omega)]⟩
theorem c_Sheets_init {h : ab_H} (h0 : h 23 = .inr (.inr (3, [.null, .null, .null]))) : ab_C Y_Sheets_init [.ref 23] 23 h (fun r m2 h2 => r = none ∧ m2 = 30 ∧ (h2 23 = oS ∧ h2 24 = oSi ∧ (∀ s, s < 4 → ∃ g : Nat → Int32, h2 (25 + s) = .inl (24, g) ∧ ∀ k, k < 24 → g k = 0) ∧ (∃ g : Nat → Int32, h2 29 = .inl (4, g) ∧ ∀ k, k < 4 → g k = -1) ∧ (∃ g : Nat → Int32, h2 30 = .inl (4, g) ∧ ∀ k, k < 4 → g k = 0)) ∧ ∀ k, (k < 23 ∨ 30 < k) → h2 k = h k) := by
  refine ab_C.of (L := [some (.ref 23)]) rfl rfl (Nat.le_of_ble_eq_true rfl) (fun l => ?_)
  refine aw_aload_n d_Sheets_init_0 rfl ?_
  refine aw_objinit d_Sheets_init_1 k_Sheets_3 ⟨by decide, Nat.le_of_ble_eq_true rfl⟩ ?_
  refine aw_aload_n d_Sheets_init_4 rfl ?_
  refine aw_iconst (v := nI 4) d_Sheets_init_5 (by decide) ?_
  refine aw_bipush (v := nI 24) d_Sheets_init_6 (by decide) ?_
  refine aw_multi (N := 4) (K := 24) d_Sheets_init_8 k_Sheets_9 (by decide) (by decide) (by decide) (by decide) ⟨by decide, by decide⟩ ⟨by decide, by decide⟩ ?_
  refine aw_putF (k := 0) (fs' := [.ref 24, .null, .null]) d_Sheets_init_12 cl_Sheets k_Sheets_11 (by decide) rfl rfl rfl ⟨rfl, rfl⟩ h0 (Nat.le_of_ble_eq_true rfl) rfl ?_
  refine aw_aload_n d_Sheets_init_15 rfl ?_
  refine aw_iconst (v := nI 4) d_Sheets_init_16 (by decide) ?_
  refine aw_newarray (N := 4) d_Sheets_init_17 (by decide) (by decide) (by decide) ⟨by decide, by decide⟩ ?_
  refine aw_putF (k := 1) (fs' := [.ref 24, .ref 29, .null]) d_Sheets_init_19 cl_Sheets k_Sheets_16 (by decide) rfl rfl rfl ⟨rfl, rfl⟩ rfl (Nat.le_of_ble_eq_true rfl) rfl ?_
  refine aw_aload_n d_Sheets_init_22 rfl ?_
  refine aw_iconst (v := nI 4) d_Sheets_init_23 (by decide) ?_
  refine aw_newarray (N := 4) d_Sheets_init_24 (by decide) (by decide) (by decide) ⟨by decide, by decide⟩ ?_
  refine aw_putF (k := 2) (fs' := [.ref 24, .ref 29, .ref 30]) d_Sheets_init_26 cl_Sheets k_Sheets_20 (by decide) rfl rfl rfl ⟨rfl, rfl⟩ rfl (Nat.le_of_ble_eq_true rfl) rfl ?_
  refine aw_aload_n d_Sheets_init_29 rfl ?_
  refine aw_get (k := 1) d_Sheets_init_30 cl_Sheets k_Sheets_16 (by decide) rfl rfl ?_
  refine aw_iconst (v := (-1)) d_Sheets_init_33 (by decide) ?_
  refine aw_s0v d_Sheets_init_34 k_Sheets_23 ok_JA_fill rfl ⟨rfl, rfl⟩ (c_fill (a := 29) rfl (by decide) (-1)) rfl rfl (Nat.le_of_ble_eq_true rfl) ?_
  refine aw_return d_Sheets_init_37 rfl ?_
  refine ⟨rfl, rfl, ⟨rfl, rfl, fun s hs => ?_, ⟨_, rfl, fun k hk => fa_fill_in hk⟩, ⟨_, rfl, fun k hk => rfl⟩⟩, fun k hk => by simp only [ab_set, ab_grid]; repeat rw [if_neg (by omega)]⟩
  match s, hs with
  | 0, _ => exact ⟨_, rfl, fun k hk => rfl⟩
  | 1, _ => exact ⟨_, rfl, fun k hk => rfl⟩
  | 2, _ => exact ⟨_, rfl, fun k hk => rfl⟩
  | 3, _ => exact ⟨_, rfl, fun k hk => rfl⟩
  | s + 4, hs => exact absurd hs (by omega)
