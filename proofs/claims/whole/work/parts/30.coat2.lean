theorem ti0 : (nI 0).toInt = 0 := by decide
theorem ti1 : (nI 1).toInt = 1 := by decide
theorem ti2 : (nI 2).toInt = 2 := by decide
theorem ti3 : (nI 3).toInt = 3 := by decide
theorem ti4 : (nI 4).toInt = 4 := by decide
theorem ti6 : (nI 6).toInt = 6 := by decide
theorem ti9 : (nI 9).toInt = 9 := by decide
theorem ti20 : (nI 20).toInt = 20 := by decide
theorem ti64 : (nI 64).toInt = 64 := by decide
theorem tim1 : (-1 : Int32).toInt = -1 := by decide
/-- a night whose rows are as they were -/
theorem PXw.scal {V : VV} {m : Nat} {h : ab_H} {S : SS} (hX : PX V m h S) (N2 : NS) (e1 : N_x N2 = N_x (S_N S)) (e2 : N_y N2 = N_y (S_N S)) (e3 : N_mk N2 = N_mk (S_N S)) (e4 : N_lk N2 = N_lk (S_N S)) (e5 : N_ma N2 = N_ma (S_N S)) (e6 : N_n N2 = N_n (S_N S)) (e7 : N_ix N2 = N_ix (S_N S)) (e8 : N_iy N2 = N_iy (S_N S)) (e9 : N_ff N2 = N_ff (S_N S)) :
    PXw V m (ab_set h 2 (oN 2 (N_n N2) (nI (pk (N_t N2))) (nI (N_w N2)) (N_ns N2) (N_ra N2) (N_se N2) (N_me N2) (N_mi N2) (N_fe N2))) (S_N_ S N2) := by
  obtain ⟨⟨a0, ⟨n0, n1, n2, n3, n4, n5, n6, n7, n8⟩, a2⟩, p1, p2, p3, p4, p5, p6, p7⟩ := hX
  refine ⟨⟨a0, ⟨rfl, ?_, ?_, ?_, ?_, ?_, ?_, ?_, ?_⟩, PXk.fr (K := S_K S) (fun k _ _ => ab_set_ne (by omega)) a2⟩, p1.fr (fun k _ _ => ab_set_ne (by omega)), p2.fr (fun k _ _ => ab_set_ne (by omega)), p3.fr (fun k _ _ => ab_set_ne (by omega)), ⟨_, p4.fr (fun k _ _ => ab_set_ne (by omega))⟩, ⟨_, p5.fr (fun k _ _ => ab_set_ne (by omega))⟩, ⟨_, p6.fr (fun k _ _ => ab_set_ne (by omega))⟩, p7.fr (fun k _ => ab_set_ne (by omega))⟩
  · rw [show N_x (S_N (S_N_ S N2)) = N_x (S_N S) from e1]; exact n1
  · rw [show N_y (S_N (S_N_ S N2)) = N_y (S_N S) from e2]; exact n2
  · rw [show N_mk (S_N (S_N_ S N2)) = N_mk (S_N S) from e3]; exact n3
  · rw [show N_lk (S_N (S_N_ S N2)) = N_lk (S_N S) from e4]; exact n4
  · rw [show N_ma (S_N (S_N_ S N2)) = N_ma (S_N S) from e5, show N_n (S_N (S_N_ S N2)) = N_n (S_N S) from e6]; exact n5
  · rw [show N_ix (S_N (S_N_ S N2)) = N_ix (S_N S) from e7]; exact n6
  · rw [show N_iy (S_N (S_N_ S N2)) = N_iy (S_N S) from e8]; exact n7
  · rw [show N_ff (S_N (S_N_ S N2)) = N_ff (S_N S) from e9]; exact n8
theorem x_set {V : VV} {m : Nat} {h : ab_H} {S : SS} (hX : PX V m h S) (ok : S_ok S) (what v : Int32) : CX V Y_Coat_set [.int what, .int v] m h (fun r S2 => (r, S2) = sp_set S what v) := by
  obtain ⟨⟨a0, ⟨n0, n1, n2, n3, n4, n5, n6, n7, n8⟩, a2⟩, p1, p2, p3, p4, p5, p6, p7⟩ := id hX
  refine ab_C.of (L := [some (.ref 1), some (.int what), some (.int v), none]) rfl rfl (Nat.le_of_ble_eq_true rfl) (fun l => ?_)
  refine aw_iload_n d_Coat_set_0 rfl ?_
  refine aw_if_ne (tgt := 37) d_Coat_set_1 (by decide) (fun c1 => ?_) (fun c1 => ?_)
  · refine aw_iload_n d_Coat_set_37 rfl ?_
    refine aw_iconst (v := nI 1) d_Coat_set_38 (by decide) ?_
    refine aw_icmp_ne (tgt := 74) d_Coat_set_39 (by decide) (fun c39 => ?_) (fun c39 => ?_)
    · refine aw_iconst (v := (-1)) d_Coat_set_74 (by decide) ?_
      refine aw_ireturn d_Coat_set_75 rfl rfl ?_
      refine ⟨_, S, rfl, ?_, hX, Nat.le_refl _, fun k _ _ => rfl⟩
      try subst_vars
      unfold sp_set
      repeat' split
      all_goals first
        | rfl
        | (exfalso; simp only [fa_lt, fa_le, fa_eq, ir, ti0, ti1, ti2, ti3, ti4, ti6, ti9, ti20, ti64, tim1, Int32.toInt_zero, Int32.toInt_one, true_and, and_true, false_and, and_false, not_true_eq_false, not_false_eq_true, false_or, or_false] at * <;> omega)
        | (simp only [cl_nI (show j < 2 ^ 31 by omega)]; done)
        | skip
    · refine aw_iload_n d_Coat_set_42 rfl ?_
      refine aw_iconst (v := nI 2) d_Coat_set_43 (by decide) ?_
      refine aw_icmp_lt (tgt := 74) d_Coat_set_44 (by decide) (fun c44 => ?_) (fun c44 => ?_)
      · refine aw_iconst (v := (-1)) d_Coat_set_74 (by decide) ?_
        refine aw_ireturn d_Coat_set_75 rfl rfl ?_
        refine ⟨_, S, rfl, ?_, hX, Nat.le_refl _, fun k _ _ => rfl⟩
        try subst_vars
        unfold sp_set
        repeat' split
        all_goals first
          | rfl
          | (exfalso; simp only [fa_lt, fa_le, fa_eq, ir, ti0, ti1, ti2, ti3, ti4, ti6, ti9, ti20, ti64, tim1, Int32.toInt_zero, Int32.toInt_one, true_and, and_true, false_and, and_false, not_true_eq_false, not_false_eq_true, false_or, or_false] at * <;> omega)
          | (simp only [cl_nI (show j < 2 ^ 31 by omega)]; done)
          | skip
      · refine aw_iload_n d_Coat_set_47 rfl ?_
        refine aw_iconst (v := nI 4) d_Coat_set_48 (by decide) ?_
        refine aw_icmp_gt (tgt := 74) d_Coat_set_49 (by decide) (fun c49 => ?_) (fun c49 => ?_)
        · refine aw_iconst (v := (-1)) d_Coat_set_74 (by decide) ?_
          refine aw_ireturn d_Coat_set_75 rfl rfl ?_
          refine ⟨_, S, rfl, ?_, hX, Nat.le_refl _, fun k _ _ => rfl⟩
          try subst_vars
          unfold sp_set
          repeat' split
          all_goals first
            | rfl
            | (exfalso; simp only [fa_lt, fa_le, fa_eq, ir, ti0, ti1, ti2, ti3, ti4, ti6, ti9, ti20, ti64, tim1, Int32.toInt_zero, Int32.toInt_one, true_and, and_true, false_and, and_false, not_true_eq_false, not_false_eq_true, false_or, or_false] at * <;> omega)
            | (simp only [cl_nI (show j < 2 ^ 31 by omega)]; done)
            | skip
        · obtain ⟨j, hj, rfl⟩ : ∃ j, j ≤ 4 ∧ v = nI j := nI_of2 (M := nI 4) (by decide) (fun q => c44 (by rw [fa_lt] at q ⊢; rw [nI_toInt (by decide)]; simp only [Int32.toInt_zero] at q; omega)) (Int32.not_lt.mp c49)
          refine aw_aload_n d_Coat_set_52 rfl ?_
          refine aw_get (k := 0) d_Coat_set_53 cl_Coat k_Coat_10 (by decide) a0 rfl ?_
          refine aw_get (k := 12) d_Coat_set_56 cl_Night k_Coat_162 (by decide) n0 rfl ?_
          refine aw_istore_n (L' := [some (.ref 1), some (.int what), some (.int (nI j)), some (.int (nI (N_se (S_N S))))]) d_Coat_set_59 ⟨by decide, rfl⟩ rfl ?_
          refine aw_aload_n d_Coat_set_60 rfl ?_
          refine aw_get (k := 0) d_Coat_set_61 cl_Coat k_Coat_10 (by decide) a0 rfl ?_
          refine aw_iload_n d_Coat_set_64 rfl ?_
          refine aw_put (k := 12) (fs' := [.int (nI (N_n (S_N S))), .ref 3, .ref 4, .ref 5, .ref 6, .ref 7, .int (nI (pk (N_t (S_N S)))), .int (nI (N_w (S_N S))), .int (nI (N_ns (S_N S))), .ref 8, .ref 9, .int (nI (N_ra (S_N S))), .int (nI j), .int (N_me (S_N S)), .int (N_mi (S_N S)), .int (nI (N_fe (S_N S))), .ref 10]) d_Coat_set_65 cl_Night k_Coat_162 (by decide) rfl ⟨rfl, rfl⟩ n0 (Nat.le_of_ble_eq_true rfl) rfl ?_
          refine aw_aload_n d_Coat_set_68 rfl ?_
          refine aw_v0 (a := 1) d_Coat_set_69 k_Coat_90 ok_Coat_changed rfl ⟨rfl, rfl⟩ cl_Coat a0 (c_changed (V := V) (S := S_N_ S (N_se_ (S_N S) j)) (PXw.scal hX (N_se_ (S_N S) j) rfl rfl rfl rfl rfl rfl rfl rfl rfl)) rfl rfl (Nat.le_of_ble_eq_true rfl) (fun r m2 h2 q => ?_)
          obtain ⟨rfl, rfl, hX2, hf2⟩ := q
          refine aw_iload_n d_Coat_set_72 rfl ?_
          refine aw_ireturn d_Coat_set_73 rfl rfl ?_
          refine ⟨_, S_N_ S (N_se_ (S_N S) j), rfl, ?_, hX2, Nat.le_refl _, fun k g1 g2 => (hf2 k g1 g2).trans (ab_set_ne (by omega))⟩
          try subst_vars
          unfold sp_set
          repeat' split
          all_goals first
            | rfl
            | (exfalso; simp only [fa_lt, fa_le, fa_eq, ir, ti0, ti1, ti2, ti3, ti4, ti6, ti9, ti20, ti64, tim1, Int32.toInt_zero, Int32.toInt_one, true_and, and_true, false_and, and_false, not_true_eq_false, not_false_eq_true, false_or, or_false] at * <;> omega)
            | (simp only [cl_nI (show j < 2 ^ 31 by omega)]; done)
            | skip
  · refine aw_iload_n d_Coat_set_4 rfl ?_
    refine aw_iconst (v := nI 1) d_Coat_set_5 (by decide) ?_
    refine aw_icmp_lt (tgt := 37) d_Coat_set_6 (by decide) (fun c6 => ?_) (fun c6 => ?_)
    · refine aw_iload_n d_Coat_set_37 rfl ?_
      refine aw_iconst (v := nI 1) d_Coat_set_38 (by decide) ?_
      refine aw_icmp_ne (tgt := 74) d_Coat_set_39 (by decide) (fun c39 => ?_) (fun c39 => ?_)
      · refine aw_iconst (v := (-1)) d_Coat_set_74 (by decide) ?_
        refine aw_ireturn d_Coat_set_75 rfl rfl ?_
        refine ⟨_, S, rfl, ?_, hX, Nat.le_refl _, fun k _ _ => rfl⟩
        try subst_vars
        unfold sp_set
        repeat' split
        all_goals first
          | rfl
          | (exfalso; simp only [fa_lt, fa_le, fa_eq, ir, ti0, ti1, ti2, ti3, ti4, ti6, ti9, ti20, ti64, tim1, Int32.toInt_zero, Int32.toInt_one, true_and, and_true, false_and, and_false, not_true_eq_false, not_false_eq_true, false_or, or_false] at * <;> omega)
          | (simp only [cl_nI (show j < 2 ^ 31 by omega)]; done)
          | skip
      · refine aw_iload_n d_Coat_set_42 rfl ?_
        refine aw_iconst (v := nI 2) d_Coat_set_43 (by decide) ?_
        refine aw_icmp_lt (tgt := 74) d_Coat_set_44 (by decide) (fun c44 => ?_) (fun c44 => ?_)
        · refine aw_iconst (v := (-1)) d_Coat_set_74 (by decide) ?_
          refine aw_ireturn d_Coat_set_75 rfl rfl ?_
          refine ⟨_, S, rfl, ?_, hX, Nat.le_refl _, fun k _ _ => rfl⟩
          try subst_vars
          unfold sp_set
          repeat' split
          all_goals first
            | rfl
            | (exfalso; simp only [fa_lt, fa_le, fa_eq, ir, ti0, ti1, ti2, ti3, ti4, ti6, ti9, ti20, ti64, tim1, Int32.toInt_zero, Int32.toInt_one, true_and, and_true, false_and, and_false, not_true_eq_false, not_false_eq_true, false_or, or_false] at * <;> omega)
            | (simp only [cl_nI (show j < 2 ^ 31 by omega)]; done)
            | skip
        · refine aw_iload_n d_Coat_set_47 rfl ?_
          refine aw_iconst (v := nI 4) d_Coat_set_48 (by decide) ?_
          refine aw_icmp_gt (tgt := 74) d_Coat_set_49 (by decide) (fun c49 => ?_) (fun c49 => ?_)
          · refine aw_iconst (v := (-1)) d_Coat_set_74 (by decide) ?_
            refine aw_ireturn d_Coat_set_75 rfl rfl ?_
            refine ⟨_, S, rfl, ?_, hX, Nat.le_refl _, fun k _ _ => rfl⟩
            try subst_vars
            unfold sp_set
            repeat' split
            all_goals first
              | rfl
              | (exfalso; simp only [fa_lt, fa_le, fa_eq, ir, ti0, ti1, ti2, ti3, ti4, ti6, ti9, ti20, ti64, tim1, Int32.toInt_zero, Int32.toInt_one, true_and, and_true, false_and, and_false, not_true_eq_false, not_false_eq_true, false_or, or_false] at * <;> omega)
              | (simp only [cl_nI (show j < 2 ^ 31 by omega)]; done)
              | skip
          · obtain ⟨j, hj, rfl⟩ : ∃ j, j ≤ 4 ∧ v = nI j := nI_of2 (M := nI 4) (by decide) (fun q => c44 (by rw [fa_lt] at q ⊢; rw [nI_toInt (by decide)]; simp only [Int32.toInt_zero] at q; omega)) (Int32.not_lt.mp c49)
            refine aw_aload_n d_Coat_set_52 rfl ?_
            refine aw_get (k := 0) d_Coat_set_53 cl_Coat k_Coat_10 (by decide) a0 rfl ?_
            refine aw_get (k := 12) d_Coat_set_56 cl_Night k_Coat_162 (by decide) n0 rfl ?_
            refine aw_istore_n (L' := [some (.ref 1), some (.int what), some (.int (nI j)), some (.int (nI (N_se (S_N S))))]) d_Coat_set_59 ⟨by decide, rfl⟩ rfl ?_
            refine aw_aload_n d_Coat_set_60 rfl ?_
            refine aw_get (k := 0) d_Coat_set_61 cl_Coat k_Coat_10 (by decide) a0 rfl ?_
            refine aw_iload_n d_Coat_set_64 rfl ?_
            refine aw_put (k := 12) (fs' := [.int (nI (N_n (S_N S))), .ref 3, .ref 4, .ref 5, .ref 6, .ref 7, .int (nI (pk (N_t (S_N S)))), .int (nI (N_w (S_N S))), .int (nI (N_ns (S_N S))), .ref 8, .ref 9, .int (nI (N_ra (S_N S))), .int (nI j), .int (N_me (S_N S)), .int (N_mi (S_N S)), .int (nI (N_fe (S_N S))), .ref 10]) d_Coat_set_65 cl_Night k_Coat_162 (by decide) rfl ⟨rfl, rfl⟩ n0 (Nat.le_of_ble_eq_true rfl) rfl ?_
            refine aw_aload_n d_Coat_set_68 rfl ?_
            refine aw_v0 (a := 1) d_Coat_set_69 k_Coat_90 ok_Coat_changed rfl ⟨rfl, rfl⟩ cl_Coat a0 (c_changed (V := V) (S := S_N_ S (N_se_ (S_N S) j)) (PXw.scal hX (N_se_ (S_N S) j) rfl rfl rfl rfl rfl rfl rfl rfl rfl)) rfl rfl (Nat.le_of_ble_eq_true rfl) (fun r m2 h2 q => ?_)
            obtain ⟨rfl, rfl, hX2, hf2⟩ := q
            refine aw_iload_n d_Coat_set_72 rfl ?_
            refine aw_ireturn d_Coat_set_73 rfl rfl ?_
            refine ⟨_, S_N_ S (N_se_ (S_N S) j), rfl, ?_, hX2, Nat.le_refl _, fun k g1 g2 => (hf2 k g1 g2).trans (ab_set_ne (by omega))⟩
            try subst_vars
            unfold sp_set
            repeat' split
            all_goals first
              | rfl
              | (exfalso; simp only [fa_lt, fa_le, fa_eq, ir, ti0, ti1, ti2, ti3, ti4, ti6, ti9, ti20, ti64, tim1, Int32.toInt_zero, Int32.toInt_one, true_and, and_true, false_and, and_false, not_true_eq_false, not_false_eq_true, false_or, or_false] at * <;> omega)
              | (simp only [cl_nI (show j < 2 ^ 31 by omega)]; done)
              | skip
    · refine aw_iload_n d_Coat_set_9 rfl ?_
      refine aw_bipush (v := nI 9) d_Coat_set_10 (by decide) ?_
      refine aw_icmp_gt (tgt := 37) d_Coat_set_12 (by decide) (fun c12 => ?_) (fun c12 => ?_)
      · refine aw_iload_n d_Coat_set_37 rfl ?_
        refine aw_iconst (v := nI 1) d_Coat_set_38 (by decide) ?_
        refine aw_icmp_ne (tgt := 74) d_Coat_set_39 (by decide) (fun c39 => ?_) (fun c39 => ?_)
        · refine aw_iconst (v := (-1)) d_Coat_set_74 (by decide) ?_
          refine aw_ireturn d_Coat_set_75 rfl rfl ?_
          refine ⟨_, S, rfl, ?_, hX, Nat.le_refl _, fun k _ _ => rfl⟩
          try subst_vars
          unfold sp_set
          repeat' split
          all_goals first
            | rfl
            | (exfalso; simp only [fa_lt, fa_le, fa_eq, ir, ti0, ti1, ti2, ti3, ti4, ti6, ti9, ti20, ti64, tim1, Int32.toInt_zero, Int32.toInt_one, true_and, and_true, false_and, and_false, not_true_eq_false, not_false_eq_true, false_or, or_false] at * <;> omega)
            | (simp only [cl_nI (show j < 2 ^ 31 by omega)]; done)
            | skip
        · refine aw_iload_n d_Coat_set_42 rfl ?_
          refine aw_iconst (v := nI 2) d_Coat_set_43 (by decide) ?_
          refine aw_icmp_lt (tgt := 74) d_Coat_set_44 (by decide) (fun c44 => ?_) (fun c44 => ?_)
          · refine aw_iconst (v := (-1)) d_Coat_set_74 (by decide) ?_
            refine aw_ireturn d_Coat_set_75 rfl rfl ?_
            refine ⟨_, S, rfl, ?_, hX, Nat.le_refl _, fun k _ _ => rfl⟩
            try subst_vars
            unfold sp_set
            repeat' split
            all_goals first
              | rfl
              | (exfalso; simp only [fa_lt, fa_le, fa_eq, ir, ti0, ti1, ti2, ti3, ti4, ti6, ti9, ti20, ti64, tim1, Int32.toInt_zero, Int32.toInt_one, true_and, and_true, false_and, and_false, not_true_eq_false, not_false_eq_true, false_or, or_false] at * <;> omega)
              | (simp only [cl_nI (show j < 2 ^ 31 by omega)]; done)
              | skip
          · refine aw_iload_n d_Coat_set_47 rfl ?_
            refine aw_iconst (v := nI 4) d_Coat_set_48 (by decide) ?_
            refine aw_icmp_gt (tgt := 74) d_Coat_set_49 (by decide) (fun c49 => ?_) (fun c49 => ?_)
            · refine aw_iconst (v := (-1)) d_Coat_set_74 (by decide) ?_
              refine aw_ireturn d_Coat_set_75 rfl rfl ?_
              refine ⟨_, S, rfl, ?_, hX, Nat.le_refl _, fun k _ _ => rfl⟩
              try subst_vars
              unfold sp_set
              repeat' split
              all_goals first
                | rfl
                | (exfalso; simp only [fa_lt, fa_le, fa_eq, ir, ti0, ti1, ti2, ti3, ti4, ti6, ti9, ti20, ti64, tim1, Int32.toInt_zero, Int32.toInt_one, true_and, and_true, false_and, and_false, not_true_eq_false, not_false_eq_true, false_or, or_false] at * <;> omega)
                | (simp only [cl_nI (show j < 2 ^ 31 by omega)]; done)
                | skip
            · obtain ⟨j, hj, rfl⟩ : ∃ j, j ≤ 4 ∧ v = nI j := nI_of2 (M := nI 4) (by decide) (fun q => c44 (by rw [fa_lt] at q ⊢; rw [nI_toInt (by decide)]; simp only [Int32.toInt_zero] at q; omega)) (Int32.not_lt.mp c49)
              refine aw_aload_n d_Coat_set_52 rfl ?_
              refine aw_get (k := 0) d_Coat_set_53 cl_Coat k_Coat_10 (by decide) a0 rfl ?_
              refine aw_get (k := 12) d_Coat_set_56 cl_Night k_Coat_162 (by decide) n0 rfl ?_
              refine aw_istore_n (L' := [some (.ref 1), some (.int what), some (.int (nI j)), some (.int (nI (N_se (S_N S))))]) d_Coat_set_59 ⟨by decide, rfl⟩ rfl ?_
              refine aw_aload_n d_Coat_set_60 rfl ?_
              refine aw_get (k := 0) d_Coat_set_61 cl_Coat k_Coat_10 (by decide) a0 rfl ?_
              refine aw_iload_n d_Coat_set_64 rfl ?_
              refine aw_put (k := 12) (fs' := [.int (nI (N_n (S_N S))), .ref 3, .ref 4, .ref 5, .ref 6, .ref 7, .int (nI (pk (N_t (S_N S)))), .int (nI (N_w (S_N S))), .int (nI (N_ns (S_N S))), .ref 8, .ref 9, .int (nI (N_ra (S_N S))), .int (nI j), .int (N_me (S_N S)), .int (N_mi (S_N S)), .int (nI (N_fe (S_N S))), .ref 10]) d_Coat_set_65 cl_Night k_Coat_162 (by decide) rfl ⟨rfl, rfl⟩ n0 (Nat.le_of_ble_eq_true rfl) rfl ?_
              refine aw_aload_n d_Coat_set_68 rfl ?_
              refine aw_v0 (a := 1) d_Coat_set_69 k_Coat_90 ok_Coat_changed rfl ⟨rfl, rfl⟩ cl_Coat a0 (c_changed (V := V) (S := S_N_ S (N_se_ (S_N S) j)) (PXw.scal hX (N_se_ (S_N S) j) rfl rfl rfl rfl rfl rfl rfl rfl rfl)) rfl rfl (Nat.le_of_ble_eq_true rfl) (fun r m2 h2 q => ?_)
              obtain ⟨rfl, rfl, hX2, hf2⟩ := q
              refine aw_iload_n d_Coat_set_72 rfl ?_
              refine aw_ireturn d_Coat_set_73 rfl rfl ?_
              refine ⟨_, S_N_ S (N_se_ (S_N S) j), rfl, ?_, hX2, Nat.le_refl _, fun k g1 g2 => (hf2 k g1 g2).trans (ab_set_ne (by omega))⟩
              try subst_vars
              unfold sp_set
              repeat' split
              all_goals first
                | rfl
                | (exfalso; simp only [fa_lt, fa_le, fa_eq, ir, ti0, ti1, ti2, ti3, ti4, ti6, ti9, ti20, ti64, tim1, Int32.toInt_zero, Int32.toInt_one, true_and, and_true, false_and, and_false, not_true_eq_false, not_false_eq_true, false_or, or_false] at * <;> omega)
                | (simp only [cl_nI (show j < 2 ^ 31 by omega)]; done)
                | skip
      · obtain ⟨j, hj, rfl⟩ : ∃ j, j ≤ 9 ∧ v = nI j := nI_of2 (M := nI 9) (by decide) (fun q => c6 (by rw [fa_lt] at q ⊢; rw [nI_toInt (by decide)]; simp only [Int32.toInt_zero] at q; omega)) (Int32.not_lt.mp c12)
        refine aw_aload_n d_Coat_set_15 rfl ?_
        refine aw_get (k := 0) d_Coat_set_16 cl_Coat k_Coat_10 (by decide) a0 rfl ?_
        refine aw_get (k := 11) d_Coat_set_19 cl_Night k_Coat_159 (by decide) n0 rfl ?_
        refine aw_istore_n (L' := [some (.ref 1), some (.int what), some (.int (nI j)), some (.int (nI (N_ra (S_N S))))]) d_Coat_set_22 ⟨by decide, rfl⟩ rfl ?_
        refine aw_aload_n d_Coat_set_23 rfl ?_
        refine aw_get (k := 0) d_Coat_set_24 cl_Coat k_Coat_10 (by decide) a0 rfl ?_
        refine aw_iload_n d_Coat_set_27 rfl ?_
        refine aw_put (k := 11) (fs' := [.int (nI (N_n (S_N S))), .ref 3, .ref 4, .ref 5, .ref 6, .ref 7, .int (nI (pk (N_t (S_N S)))), .int (nI (N_w (S_N S))), .int (nI (N_ns (S_N S))), .ref 8, .ref 9, .int (nI j), .int (nI (N_se (S_N S))), .int (N_me (S_N S)), .int (N_mi (S_N S)), .int (nI (N_fe (S_N S))), .ref 10]) d_Coat_set_28 cl_Night k_Coat_159 (by decide) rfl ⟨rfl, rfl⟩ n0 (Nat.le_of_ble_eq_true rfl) rfl ?_
        refine aw_aload_n d_Coat_set_31 rfl ?_
        refine aw_v0 (a := 1) d_Coat_set_32 k_Coat_90 ok_Coat_changed rfl ⟨rfl, rfl⟩ cl_Coat a0 (c_changed (V := V) (S := S_N_ S (N_ra_ (S_N S) j)) (PXw.scal hX (N_ra_ (S_N S) j) rfl rfl rfl rfl rfl rfl rfl rfl rfl)) rfl rfl (Nat.le_of_ble_eq_true rfl) (fun r m2 h2 q => ?_)
        obtain ⟨rfl, rfl, hX2, hf2⟩ := q
        refine aw_iload_n d_Coat_set_35 rfl ?_
        refine aw_ireturn d_Coat_set_36 rfl rfl ?_
        refine ⟨_, S_N_ S (N_ra_ (S_N S) j), rfl, ?_, hX2, Nat.le_refl _, fun k g1 g2 => (hf2 k g1 g2).trans (ab_set_ne (by omega))⟩
        try subst_vars
        unfold sp_set
        repeat' split
        all_goals first
          | rfl
          | (exfalso; simp only [fa_lt, fa_le, fa_eq, ir, ti0, ti1, ti2, ti3, ti4, ti6, ti9, ti20, ti64, tim1, Int32.toInt_zero, Int32.toInt_one, true_and, and_true, false_and, and_false, not_true_eq_false, not_false_eq_true, false_or, or_false] at * <;> omega)
          | (simp only [cl_nI (show j < 2 ^ 31 by omega)]; done)
          | skip
