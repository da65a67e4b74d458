theorem y_set {V : VV} {m c : Nat} {h : ab_H} {S : SS} (hM : PM V c h S) (ok : S_ok S) (hc : c < 900)  (what v : Int32) : CM V Y_M_set [.int what, .int v] m c h (fun r S2 => (r, S2) = sp_set S what v) := by
  obtain ⟨⟨tab, la, at_, wr, ve, fs, ft, m0, m1, m2, m3, m4, m5, m6⟩, ⟨n0, n1, n2, n3, n4, n5, n6, n7, n8, n9⟩, q1, q2, q3, q4⟩ := id hM
  have hn6 : N_n (S_N S) ≤ 6 := ok.1.1
  have hnT := nI_toInt (show N_n (S_N S) < 2 ^ 31 by omega)
  refine ab_C.of (L := [some (.ref 56), some (.int what), some (.int v), none]) rfl rfl (Nat.le_of_ble_eq_true rfl) (fun l => ?_)
  refine aw_iload_n d_M_set_0 rfl ?_
  refine aw_i2l d_M_set_1 ?_
  refine aw_lconst (v := lN 0) d_M_set_2 (by decide) ?_
  refine aw_lconst (v := lN 1) d_M_set_3 (by decide) ?_
  refine aw_s0i d_M_set_4 k_M_121 ok_M_in rfl ⟨rfl, rfl⟩ (c_in what.toInt64 (lN 0) (lN 1)) rfl rfl (Nat.le_of_ble_eq_true rfl) ?_
  refine aw_if_eq (tgt := 42) d_M_set_7 (by decide) (fun c7 => ?_) (fun c7 => ?_)
  · refine aw_iconst (v := (-1)) d_M_set_42 (by decide) ?_
    refine aw_ireturn d_M_set_43 rfl rfl ?_
    first
      | (exfalso; exact absurd (by assumption) c24)
      | (exfalso; exact absurd (by assumption) c13)
      | (refine ⟨_, S, rfl, ?_, ⟨⟨tab, la, at_, wr, ve, fs, ft, m0, by omega, by omega, m3, m4, m5, m6⟩, ⟨n0, n1, n2, n3, n4, n5, n6, n7, n8, n9⟩, q1, q2, q3, q4⟩, rfl, fun k _ => rfl⟩
         unfold sp_set
         simp only [ab_bl_0, decide_eq_false_iff_not, i64_toInt, tl0, tl1, tl2, tl4, tl9] at c7
         rw [if_neg, if_neg]
         · simp only [fa_eq, Int32.toInt_one, Int32.toInt_zero] at *
           omega
         · simp only [fa_eq, Int32.toInt_one, Int32.toInt_zero] at *
           omega)
  · refine aw_iload_n d_M_set_10 rfl ?_
    refine aw_i2l d_M_set_11 ?_
    refine aw_iload_n d_M_set_12 rfl ?_
    refine aw_if_ne (tgt := 20) d_M_set_13 (by decide) (fun c13 => ?_) (fun c13 => ?_)
    · refine aw_ldc2 (v := lN 2) d_M_set_20 k_M_177 ?_
      refine aw_iload_n d_M_set_23 rfl ?_
      refine aw_if_ne (tgt := 33) d_M_set_24 (by decide) (fun c24 => ?_) (fun c24 => ?_)
      · refine aw_ldc2 (v := lN 4) d_M_set_33 k_M_179 ?_
        refine aw_s0i d_M_set_36 k_M_121 ok_M_in rfl ⟨rfl, rfl⟩ (c_in v.toInt64 (lN 2) (lN 4)) rfl rfl (Nat.le_of_ble_eq_true rfl) ?_
        refine aw_if_ne (tgt := 44) d_M_set_39 (by decide) (fun c39 => ?_) (fun c39 => ?_)
        · have k39 := of_decide_eq_true (ab_bl_1.mp c39)
          simp only [i64_toInt, tl1, tl2, tl4, tl9] at k39
          obtain ⟨j, hj, rfl⟩ : ∃ j : Nat, (j : Int) = v.toInt ∧ v = nI j := ⟨cl v, cl_int (by omega), cl_of (by omega)⟩
          refine aw_iload_n d_M_set_44 rfl ?_
          refine aw_if_ne (tgt := 55) d_M_set_45 (by decide) (fun c45 => ?_) (fun c45 => ?_)
          · refine aw_aload_n d_M_set_55 rfl ?_
            refine aw_get (k := 12) d_M_set_56 cl_Model k_M_41 (by decide) m0 rfl ?_
            refine aw_istore_n (L' := [some (.ref 56), some (.int what), some (.int (nI j)), some (.int (nI (N_se (S_N S))))]) d_M_set_59 ⟨by decide, rfl⟩ rfl ?_
            refine aw_aload_n d_M_set_60 rfl ?_
            refine aw_dup d_M_set_61 rfl ?_
            refine aw_get (k := 25) d_M_set_62 cl_Model k_M_133 (by decide) m0 rfl ?_
            refine aw_iconst (v := nI 1) d_M_set_65 (by decide) ?_
            refine aw_iadd d_M_set_66 ?_
            rw [nI_add]
            refine aw_put (k := 25) (fs' := [.int (nI (N_n (S_N S))), .ref 57, .ref 58, .ref 59, .ref 60, .ref 61, .ref 62, .ref 63, .int (nI (N_ns (S_N S))), .ref 64, .ref 65, .int (nI (N_ra (S_N S))), .int (nI (N_se (S_N S))), .int (N_me (S_N S)), .int (N_mi (S_N S)), .ref 66, .ref 67, .int tab, .ref 68, .ref 69, .ref 70, .ref 71, .ref 72, .ref 73, .ref 74, .int (nI (ve + 1)), .int la, .ref 75, .ref 76, .int (nI (S_tl S)), .int at_, .int wr, .ref 77, .ref 78, .int (nI (N_fe (S_N S))), .ref 79, .ref 80, .ref 81, .ref 82, .ref 83, .ref 84, .int (ab_bl (S_K S).isSome), .ref 85, .ref 86, .ref 87, .ref 88]) d_M_set_67 cl_Model k_M_133 (by decide) rfl ⟨rfl, rfl⟩ m0 (Nat.le_of_ble_eq_true rfl) rfl ?_
            refine aw_iload_n d_M_set_70 rfl ?_
            refine aw_if_ne (tgt := 82) d_M_set_71 (by decide) (fun c71 => ?_) (fun c71 => ?_)
            · refine aw_aload_n d_M_set_82 rfl ?_
              refine aw_iload_n d_M_set_83 rfl ?_
              refine aw_put (k := 12) (fs' := [.int (nI (N_n (S_N S))), .ref 57, .ref 58, .ref 59, .ref 60, .ref 61, .ref 62, .ref 63, .int (nI (N_ns (S_N S))), .ref 64, .ref 65, .int (nI (N_ra (S_N S))), .int (nI j), .int (N_me (S_N S)), .int (N_mi (S_N S)), .ref 66, .ref 67, .int tab, .ref 68, .ref 69, .ref 70, .ref 71, .ref 72, .ref 73, .ref 74, .int (nI (ve + 1)), .int la, .ref 75, .ref 76, .int (nI (S_tl S)), .int at_, .int wr, .ref 77, .ref 78, .int (nI (N_fe (S_N S))), .ref 79, .ref 80, .ref 81, .ref 82, .ref 83, .ref 84, .int (ab_bl (S_K S).isSome), .ref 85, .ref 86, .ref 87, .ref 88]) d_M_set_84 cl_Model k_M_41 (by decide) rfl ⟨rfl, rfl⟩ rfl (Nat.le_of_ble_eq_true rfl) rfl ?_
              refine aw_iload_n d_M_set_87 rfl ?_
              refine aw_ireturn d_M_set_88 rfl rfl ?_
              first
                | (subst c71
                   refine ⟨_, S_N_ S (N_ra_ (S_N S) j), rfl, ?_, ⟨⟨tab, la, at_, wr, ve + 1, fs, ft, rfl, by omega, by omega, m3, m4, m5, la_up m6⟩, ⟨n0, n1, n2, n3, n4, n5, n6, n7, n8, n9⟩, q1, q2, q3, q4⟩, rfl, (fun k hk => by rw [ab_set_ne (by omega), ab_set_ne (by omega)])⟩
                   unfold sp_set
                   rw [if_pos ⟨rfl, by first | exact k39 | (exfalso; exact absurd rfl (by assumption))⟩, cl_nI (show j < 2 ^ 31 by first | omega | (exfalso; exact absurd rfl (by assumption)))]
                   done)
                | (exfalso; exact absurd (by assumption) c71)
                | (exfalso; exact absurd (by assumption) c13)
                | (exfalso; exact absurd (by assumption) c24)
                | (exfalso; exact absurd (by assumption) c45)
                | (have k7 := of_decide_eq_true (ab_bl_1.mp c7)
                   rw [i64_toInt, tl0, tl1] at k7
                   have e1 : what = 1 := by
                     rw [fa_eq] at c71 ⊢
                     rw [Int32.toInt_zero] at c71
                     rw [Int32.toInt_one]
                     omega
                   subst e1
                   refine ⟨_, S_N_ S (N_se_ (S_N S) j), rfl, ?_, ⟨⟨tab, la, at_, wr, ve + 1, fs, ft, rfl, by omega, by omega, m3, m4, m5, la_up m6⟩, ⟨n0, n1, n2, n3, n4, n5, n6, n7, n8, n9⟩, q1, q2, q3, q4⟩, rfl, (fun k hk => by rw [ab_set_ne (by omega), ab_set_ne (by omega)])⟩
                   unfold sp_set
                   rw [if_neg (fun q => absurd q.1 (by decide)), if_pos ⟨rfl, k39⟩, cl_nI (show j < 2 ^ 31 by omega)]
                   done)
            · refine aw_aload_n d_M_set_74 rfl ?_
              refine aw_iload_n d_M_set_75 rfl ?_
              refine aw_put (k := 11) (fs' := [.int (nI (N_n (S_N S))), .ref 57, .ref 58, .ref 59, .ref 60, .ref 61, .ref 62, .ref 63, .int (nI (N_ns (S_N S))), .ref 64, .ref 65, .int (nI j), .int (nI (N_se (S_N S))), .int (N_me (S_N S)), .int (N_mi (S_N S)), .ref 66, .ref 67, .int tab, .ref 68, .ref 69, .ref 70, .ref 71, .ref 72, .ref 73, .ref 74, .int (nI (ve + 1)), .int la, .ref 75, .ref 76, .int (nI (S_tl S)), .int at_, .int wr, .ref 77, .ref 78, .int (nI (N_fe (S_N S))), .ref 79, .ref 80, .ref 81, .ref 82, .ref 83, .ref 84, .int (ab_bl (S_K S).isSome), .ref 85, .ref 86, .ref 87, .ref 88]) d_M_set_76 cl_Model k_M_37 (by decide) rfl ⟨rfl, rfl⟩ rfl (Nat.le_of_ble_eq_true rfl) rfl ?_
              refine aw_goto (tgt := 87) d_M_set_79 (by decide) ?_
              refine aw_iload_n d_M_set_87 rfl ?_
              refine aw_ireturn d_M_set_88 rfl rfl ?_
              first
                | (subst c71
                   refine ⟨_, S_N_ S (N_ra_ (S_N S) j), rfl, ?_, ⟨⟨tab, la, at_, wr, ve + 1, fs, ft, rfl, by omega, by omega, m3, m4, m5, la_up m6⟩, ⟨n0, n1, n2, n3, n4, n5, n6, n7, n8, n9⟩, q1, q2, q3, q4⟩, rfl, (fun k hk => by rw [ab_set_ne (by omega), ab_set_ne (by omega)])⟩
                   unfold sp_set
                   rw [if_pos ⟨rfl, by first | exact k39 | (exfalso; exact absurd rfl (by assumption))⟩, cl_nI (show j < 2 ^ 31 by first | omega | (exfalso; exact absurd rfl (by assumption)))]
                   done)
                | (exfalso; exact absurd (by assumption) c71)
                | (exfalso; exact absurd (by assumption) c13)
                | (exfalso; exact absurd (by assumption) c24)
                | (exfalso; exact absurd (by assumption) c45)
                | (have k7 := of_decide_eq_true (ab_bl_1.mp c7)
                   rw [i64_toInt, tl0, tl1] at k7
                   have e1 : what = 1 := by
                     rw [fa_eq] at c71 ⊢
                     rw [Int32.toInt_zero] at c71
                     rw [Int32.toInt_one]
                     omega
                   subst e1
                   refine ⟨_, S_N_ S (N_se_ (S_N S) j), rfl, ?_, ⟨⟨tab, la, at_, wr, ve + 1, fs, ft, rfl, by omega, by omega, m3, m4, m5, la_up m6⟩, ⟨n0, n1, n2, n3, n4, n5, n6, n7, n8, n9⟩, q1, q2, q3, q4⟩, rfl, (fun k hk => by rw [ab_set_ne (by omega), ab_set_ne (by omega)])⟩
                   unfold sp_set
                   rw [if_neg (fun q => absurd q.1 (by decide)), if_pos ⟨rfl, k39⟩, cl_nI (show j < 2 ^ 31 by omega)]
                   done)
          · refine aw_aload_n d_M_set_48 rfl ?_
            refine aw_get (k := 11) d_M_set_49 cl_Model k_M_37 (by decide) m0 rfl ?_
            refine aw_goto (tgt := 59) d_M_set_52 (by decide) ?_
            refine aw_istore_n (L' := [some (.ref 56), some (.int what), some (.int (nI j)), some (.int (nI (N_ra (S_N S))))]) d_M_set_59 ⟨by decide, rfl⟩ rfl ?_
            refine aw_aload_n d_M_set_60 rfl ?_
            refine aw_dup d_M_set_61 rfl ?_
            refine aw_get (k := 25) d_M_set_62 cl_Model k_M_133 (by decide) m0 rfl ?_
            refine aw_iconst (v := nI 1) d_M_set_65 (by decide) ?_
            refine aw_iadd d_M_set_66 ?_
            rw [nI_add]
            refine aw_put (k := 25) (fs' := [.int (nI (N_n (S_N S))), .ref 57, .ref 58, .ref 59, .ref 60, .ref 61, .ref 62, .ref 63, .int (nI (N_ns (S_N S))), .ref 64, .ref 65, .int (nI (N_ra (S_N S))), .int (nI (N_se (S_N S))), .int (N_me (S_N S)), .int (N_mi (S_N S)), .ref 66, .ref 67, .int tab, .ref 68, .ref 69, .ref 70, .ref 71, .ref 72, .ref 73, .ref 74, .int (nI (ve + 1)), .int la, .ref 75, .ref 76, .int (nI (S_tl S)), .int at_, .int wr, .ref 77, .ref 78, .int (nI (N_fe (S_N S))), .ref 79, .ref 80, .ref 81, .ref 82, .ref 83, .ref 84, .int (ab_bl (S_K S).isSome), .ref 85, .ref 86, .ref 87, .ref 88]) d_M_set_67 cl_Model k_M_133 (by decide) rfl ⟨rfl, rfl⟩ m0 (Nat.le_of_ble_eq_true rfl) rfl ?_
            refine aw_iload_n d_M_set_70 rfl ?_
            refine aw_if_ne (tgt := 82) d_M_set_71 (by decide) (fun c71 => ?_) (fun c71 => ?_)
            · refine aw_aload_n d_M_set_82 rfl ?_
              refine aw_iload_n d_M_set_83 rfl ?_
              refine aw_put (k := 12) (fs' := [.int (nI (N_n (S_N S))), .ref 57, .ref 58, .ref 59, .ref 60, .ref 61, .ref 62, .ref 63, .int (nI (N_ns (S_N S))), .ref 64, .ref 65, .int (nI (N_ra (S_N S))), .int (nI j), .int (N_me (S_N S)), .int (N_mi (S_N S)), .ref 66, .ref 67, .int tab, .ref 68, .ref 69, .ref 70, .ref 71, .ref 72, .ref 73, .ref 74, .int (nI (ve + 1)), .int la, .ref 75, .ref 76, .int (nI (S_tl S)), .int at_, .int wr, .ref 77, .ref 78, .int (nI (N_fe (S_N S))), .ref 79, .ref 80, .ref 81, .ref 82, .ref 83, .ref 84, .int (ab_bl (S_K S).isSome), .ref 85, .ref 86, .ref 87, .ref 88]) d_M_set_84 cl_Model k_M_41 (by decide) rfl ⟨rfl, rfl⟩ rfl (Nat.le_of_ble_eq_true rfl) rfl ?_
              refine aw_iload_n d_M_set_87 rfl ?_
              refine aw_ireturn d_M_set_88 rfl rfl ?_
              first
                | (subst c71
                   refine ⟨_, S_N_ S (N_ra_ (S_N S) j), rfl, ?_, ⟨⟨tab, la, at_, wr, ve + 1, fs, ft, rfl, by omega, by omega, m3, m4, m5, la_up m6⟩, ⟨n0, n1, n2, n3, n4, n5, n6, n7, n8, n9⟩, q1, q2, q3, q4⟩, rfl, (fun k hk => by rw [ab_set_ne (by omega), ab_set_ne (by omega)])⟩
                   unfold sp_set
                   rw [if_pos ⟨rfl, by first | exact k39 | (exfalso; exact absurd rfl (by assumption))⟩, cl_nI (show j < 2 ^ 31 by first | omega | (exfalso; exact absurd rfl (by assumption)))]
                   done)
                | (exfalso; exact absurd (by assumption) c71)
                | (exfalso; exact absurd (by assumption) c13)
                | (exfalso; exact absurd (by assumption) c24)
                | (exfalso; exact absurd (by assumption) c45)
                | (have k7 := of_decide_eq_true (ab_bl_1.mp c7)
                   rw [i64_toInt, tl0, tl1] at k7
                   have e1 : what = 1 := by
                     rw [fa_eq] at c71 ⊢
                     rw [Int32.toInt_zero] at c71
                     rw [Int32.toInt_one]
                     omega
                   subst e1
                   refine ⟨_, S_N_ S (N_se_ (S_N S) j), rfl, ?_, ⟨⟨tab, la, at_, wr, ve + 1, fs, ft, rfl, by omega, by omega, m3, m4, m5, la_up m6⟩, ⟨n0, n1, n2, n3, n4, n5, n6, n7, n8, n9⟩, q1, q2, q3, q4⟩, rfl, (fun k hk => by rw [ab_set_ne (by omega), ab_set_ne (by omega)])⟩
                   unfold sp_set
                   rw [if_neg (fun q => absurd q.1 (by decide)), if_pos ⟨rfl, k39⟩, cl_nI (show j < 2 ^ 31 by omega)]
                   done)
            · refine aw_aload_n d_M_set_74 rfl ?_
              refine aw_iload_n d_M_set_75 rfl ?_
              refine aw_put (k := 11) (fs' := [.int (nI (N_n (S_N S))), .ref 57, .ref 58, .ref 59, .ref 60, .ref 61, .ref 62, .ref 63, .int (nI (N_ns (S_N S))), .ref 64, .ref 65, .int (nI j), .int (nI (N_se (S_N S))), .int (N_me (S_N S)), .int (N_mi (S_N S)), .ref 66, .ref 67, .int tab, .ref 68, .ref 69, .ref 70, .ref 71, .ref 72, .ref 73, .ref 74, .int (nI (ve + 1)), .int la, .ref 75, .ref 76, .int (nI (S_tl S)), .int at_, .int wr, .ref 77, .ref 78, .int (nI (N_fe (S_N S))), .ref 79, .ref 80, .ref 81, .ref 82, .ref 83, .ref 84, .int (ab_bl (S_K S).isSome), .ref 85, .ref 86, .ref 87, .ref 88]) d_M_set_76 cl_Model k_M_37 (by decide) rfl ⟨rfl, rfl⟩ rfl (Nat.le_of_ble_eq_true rfl) rfl ?_
              refine aw_goto (tgt := 87) d_M_set_79 (by decide) ?_
              refine aw_iload_n d_M_set_87 rfl ?_
              refine aw_ireturn d_M_set_88 rfl rfl ?_
              first
                | (subst c71
                   refine ⟨_, S_N_ S (N_ra_ (S_N S) j), rfl, ?_, ⟨⟨tab, la, at_, wr, ve + 1, fs, ft, rfl, by omega, by omega, m3, m4, m5, la_up m6⟩, ⟨n0, n1, n2, n3, n4, n5, n6, n7, n8, n9⟩, q1, q2, q3, q4⟩, rfl, (fun k hk => by rw [ab_set_ne (by omega), ab_set_ne (by omega)])⟩
                   unfold sp_set
                   rw [if_pos ⟨rfl, by first | exact k39 | (exfalso; exact absurd rfl (by assumption))⟩, cl_nI (show j < 2 ^ 31 by first | omega | (exfalso; exact absurd rfl (by assumption)))]
                   done)
                | (exfalso; exact absurd (by assumption) c71)
                | (exfalso; exact absurd (by assumption) c13)
                | (exfalso; exact absurd (by assumption) c24)
                | (exfalso; exact absurd (by assumption) c45)
                | (have k7 := of_decide_eq_true (ab_bl_1.mp c7)
                   rw [i64_toInt, tl0, tl1] at k7
                   have e1 : what = 1 := by
                     rw [fa_eq] at c71 ⊢
                     rw [Int32.toInt_zero] at c71
                     rw [Int32.toInt_one]
                     omega
                   subst e1
                   refine ⟨_, S_N_ S (N_se_ (S_N S) j), rfl, ?_, ⟨⟨tab, la, at_, wr, ve + 1, fs, ft, rfl, by omega, by omega, m3, m4, m5, la_up m6⟩, ⟨n0, n1, n2, n3, n4, n5, n6, n7, n8, n9⟩, q1, q2, q3, q4⟩, rfl, (fun k hk => by rw [ab_set_ne (by omega), ab_set_ne (by omega)])⟩
                   unfold sp_set
                   rw [if_neg (fun q => absurd q.1 (by decide)), if_pos ⟨rfl, k39⟩, cl_nI (show j < 2 ^ 31 by omega)]
                   done)
        · refine aw_iconst (v := (-1)) d_M_set_42 (by decide) ?_
          refine aw_ireturn d_M_set_43 rfl rfl ?_
          first
            | (exfalso; exact absurd (by assumption) c24)
            | (exfalso; exact absurd (by assumption) c13)
            | (refine ⟨_, S, rfl, ?_, ⟨⟨tab, la, at_, wr, ve, fs, ft, m0, by omega, by omega, m3, m4, m5, m6⟩, ⟨n0, n1, n2, n3, n4, n5, n6, n7, n8, n9⟩, q1, q2, q3, q4⟩, rfl, fun k _ => rfl⟩
               unfold sp_set
               simp only [ab_bl_0, decide_eq_false_iff_not, i64_toInt, tl0, tl1, tl2, tl4, tl9] at c7 c13 c24 c39
               rw [if_neg, if_neg]
               · simp only [fa_eq, Int32.toInt_one, Int32.toInt_zero] at *
                 omega
               · simp only [fa_eq, Int32.toInt_one, Int32.toInt_zero] at *
                 omega)
      · refine aw_ldc2 (v := lN 9) d_M_set_27 k_M_154 ?_
        refine aw_goto (tgt := 36) d_M_set_30 (by decide) ?_
        refine aw_s0i d_M_set_36 k_M_121 ok_M_in rfl ⟨rfl, rfl⟩ (c_in v.toInt64 (lN 2) (lN 9)) rfl rfl (Nat.le_of_ble_eq_true rfl) ?_
        refine aw_if_ne (tgt := 44) d_M_set_39 (by decide) (fun c39 => ?_) (fun c39 => ?_)
        · have k39 := of_decide_eq_true (ab_bl_1.mp c39)
          simp only [i64_toInt, tl1, tl2, tl4, tl9] at k39
          obtain ⟨j, hj, rfl⟩ : ∃ j : Nat, (j : Int) = v.toInt ∧ v = nI j := ⟨cl v, cl_int (by omega), cl_of (by omega)⟩
          refine aw_iload_n d_M_set_44 rfl ?_
          refine aw_if_ne (tgt := 55) d_M_set_45 (by decide) (fun c45 => ?_) (fun c45 => ?_)
          · refine aw_aload_n d_M_set_55 rfl ?_
            refine aw_get (k := 12) d_M_set_56 cl_Model k_M_41 (by decide) m0 rfl ?_
            refine aw_istore_n (L' := [some (.ref 56), some (.int what), some (.int (nI j)), some (.int (nI (N_se (S_N S))))]) d_M_set_59 ⟨by decide, rfl⟩ rfl ?_
            refine aw_aload_n d_M_set_60 rfl ?_
            refine aw_dup d_M_set_61 rfl ?_
            refine aw_get (k := 25) d_M_set_62 cl_Model k_M_133 (by decide) m0 rfl ?_
            refine aw_iconst (v := nI 1) d_M_set_65 (by decide) ?_
            refine aw_iadd d_M_set_66 ?_
            rw [nI_add]
            refine aw_put (k := 25) (fs' := [.int (nI (N_n (S_N S))), .ref 57, .ref 58, .ref 59, .ref 60, .ref 61, .ref 62, .ref 63, .int (nI (N_ns (S_N S))), .ref 64, .ref 65, .int (nI (N_ra (S_N S))), .int (nI (N_se (S_N S))), .int (N_me (S_N S)), .int (N_mi (S_N S)), .ref 66, .ref 67, .int tab, .ref 68, .ref 69, .ref 70, .ref 71, .ref 72, .ref 73, .ref 74, .int (nI (ve + 1)), .int la, .ref 75, .ref 76, .int (nI (S_tl S)), .int at_, .int wr, .ref 77, .ref 78, .int (nI (N_fe (S_N S))), .ref 79, .ref 80, .ref 81, .ref 82, .ref 83, .ref 84, .int (ab_bl (S_K S).isSome), .ref 85, .ref 86, .ref 87, .ref 88]) d_M_set_67 cl_Model k_M_133 (by decide) rfl ⟨rfl, rfl⟩ m0 (Nat.le_of_ble_eq_true rfl) rfl ?_
            refine aw_iload_n d_M_set_70 rfl ?_
            refine aw_if_ne (tgt := 82) d_M_set_71 (by decide) (fun c71 => ?_) (fun c71 => ?_)
            · refine aw_aload_n d_M_set_82 rfl ?_
              refine aw_iload_n d_M_set_83 rfl ?_
              refine aw_put (k := 12) (fs' := [.int (nI (N_n (S_N S))), .ref 57, .ref 58, .ref 59, .ref 60, .ref 61, .ref 62, .ref 63, .int (nI (N_ns (S_N S))), .ref 64, .ref 65, .int (nI (N_ra (S_N S))), .int (nI j), .int (N_me (S_N S)), .int (N_mi (S_N S)), .ref 66, .ref 67, .int tab, .ref 68, .ref 69, .ref 70, .ref 71, .ref 72, .ref 73, .ref 74, .int (nI (ve + 1)), .int la, .ref 75, .ref 76, .int (nI (S_tl S)), .int at_, .int wr, .ref 77, .ref 78, .int (nI (N_fe (S_N S))), .ref 79, .ref 80, .ref 81, .ref 82, .ref 83, .ref 84, .int (ab_bl (S_K S).isSome), .ref 85, .ref 86, .ref 87, .ref 88]) d_M_set_84 cl_Model k_M_41 (by decide) rfl ⟨rfl, rfl⟩ rfl (Nat.le_of_ble_eq_true rfl) rfl ?_
              refine aw_iload_n d_M_set_87 rfl ?_
              refine aw_ireturn d_M_set_88 rfl rfl ?_
              first
                | (subst c71
                   refine ⟨_, S_N_ S (N_ra_ (S_N S) j), rfl, ?_, ⟨⟨tab, la, at_, wr, ve + 1, fs, ft, rfl, by omega, by omega, m3, m4, m5, la_up m6⟩, ⟨n0, n1, n2, n3, n4, n5, n6, n7, n8, n9⟩, q1, q2, q3, q4⟩, rfl, (fun k hk => by rw [ab_set_ne (by omega), ab_set_ne (by omega)])⟩
                   unfold sp_set
                   rw [if_pos ⟨rfl, by first | exact k39 | (exfalso; exact absurd rfl (by assumption))⟩, cl_nI (show j < 2 ^ 31 by first | omega | (exfalso; exact absurd rfl (by assumption)))]
                   done)
                | (exfalso; exact absurd (by assumption) c71)
                | (exfalso; exact absurd (by assumption) c13)
                | (exfalso; exact absurd (by assumption) c24)
                | (exfalso; exact absurd (by assumption) c45)
                | (have k7 := of_decide_eq_true (ab_bl_1.mp c7)
                   rw [i64_toInt, tl0, tl1] at k7
                   have e1 : what = 1 := by
                     rw [fa_eq] at c71 ⊢
                     rw [Int32.toInt_zero] at c71
                     rw [Int32.toInt_one]
                     omega
                   subst e1
                   refine ⟨_, S_N_ S (N_se_ (S_N S) j), rfl, ?_, ⟨⟨tab, la, at_, wr, ve + 1, fs, ft, rfl, by omega, by omega, m3, m4, m5, la_up m6⟩, ⟨n0, n1, n2, n3, n4, n5, n6, n7, n8, n9⟩, q1, q2, q3, q4⟩, rfl, (fun k hk => by rw [ab_set_ne (by omega), ab_set_ne (by omega)])⟩
                   unfold sp_set
                   rw [if_neg (fun q => absurd q.1 (by decide)), if_pos ⟨rfl, k39⟩, cl_nI (show j < 2 ^ 31 by omega)]
                   done)
            · refine aw_aload_n d_M_set_74 rfl ?_
              refine aw_iload_n d_M_set_75 rfl ?_
              refine aw_put (k := 11) (fs' := [.int (nI (N_n (S_N S))), .ref 57, .ref 58, .ref 59, .ref 60, .ref 61, .ref 62, .ref 63, .int (nI (N_ns (S_N S))), .ref 64, .ref 65, .int (nI j), .int (nI (N_se (S_N S))), .int (N_me (S_N S)), .int (N_mi (S_N S)), .ref 66, .ref 67, .int tab, .ref 68, .ref 69, .ref 70, .ref 71, .ref 72, .ref 73, .ref 74, .int (nI (ve + 1)), .int la, .ref 75, .ref 76, .int (nI (S_tl S)), .int at_, .int wr, .ref 77, .ref 78, .int (nI (N_fe (S_N S))), .ref 79, .ref 80, .ref 81, .ref 82, .ref 83, .ref 84, .int (ab_bl (S_K S).isSome), .ref 85, .ref 86, .ref 87, .ref 88]) d_M_set_76 cl_Model k_M_37 (by decide) rfl ⟨rfl, rfl⟩ rfl (Nat.le_of_ble_eq_true rfl) rfl ?_
              refine aw_goto (tgt := 87) d_M_set_79 (by decide) ?_
              refine aw_iload_n d_M_set_87 rfl ?_
              refine aw_ireturn d_M_set_88 rfl rfl ?_
              first
                | (subst c71
                   refine ⟨_, S_N_ S (N_ra_ (S_N S) j), rfl, ?_, ⟨⟨tab, la, at_, wr, ve + 1, fs, ft, rfl, by omega, by omega, m3, m4, m5, la_up m6⟩, ⟨n0, n1, n2, n3, n4, n5, n6, n7, n8, n9⟩, q1, q2, q3, q4⟩, rfl, (fun k hk => by rw [ab_set_ne (by omega), ab_set_ne (by omega)])⟩
                   unfold sp_set
                   rw [if_pos ⟨rfl, by first | exact k39 | (exfalso; exact absurd rfl (by assumption))⟩, cl_nI (show j < 2 ^ 31 by first | omega | (exfalso; exact absurd rfl (by assumption)))]
                   done)
                | (exfalso; exact absurd (by assumption) c71)
                | (exfalso; exact absurd (by assumption) c13)
                | (exfalso; exact absurd (by assumption) c24)
                | (exfalso; exact absurd (by assumption) c45)
                | (have k7 := of_decide_eq_true (ab_bl_1.mp c7)
                   rw [i64_toInt, tl0, tl1] at k7
                   have e1 : what = 1 := by
                     rw [fa_eq] at c71 ⊢
                     rw [Int32.toInt_zero] at c71
                     rw [Int32.toInt_one]
                     omega
                   subst e1
                   refine ⟨_, S_N_ S (N_se_ (S_N S) j), rfl, ?_, ⟨⟨tab, la, at_, wr, ve + 1, fs, ft, rfl, by omega, by omega, m3, m4, m5, la_up m6⟩, ⟨n0, n1, n2, n3, n4, n5, n6, n7, n8, n9⟩, q1, q2, q3, q4⟩, rfl, (fun k hk => by rw [ab_set_ne (by omega), ab_set_ne (by omega)])⟩
                   unfold sp_set
                   rw [if_neg (fun q => absurd q.1 (by decide)), if_pos ⟨rfl, k39⟩, cl_nI (show j < 2 ^ 31 by omega)]
                   done)
          · refine aw_aload_n d_M_set_48 rfl ?_
            refine aw_get (k := 11) d_M_set_49 cl_Model k_M_37 (by decide) m0 rfl ?_
            refine aw_goto (tgt := 59) d_M_set_52 (by decide) ?_
            refine aw_istore_n (L' := [some (.ref 56), some (.int what), some (.int (nI j)), some (.int (nI (N_ra (S_N S))))]) d_M_set_59 ⟨by decide, rfl⟩ rfl ?_
            refine aw_aload_n d_M_set_60 rfl ?_
            refine aw_dup d_M_set_61 rfl ?_
            refine aw_get (k := 25) d_M_set_62 cl_Model k_M_133 (by decide) m0 rfl ?_
            refine aw_iconst (v := nI 1) d_M_set_65 (by decide) ?_
            refine aw_iadd d_M_set_66 ?_
            rw [nI_add]
            refine aw_put (k := 25) (fs' := [.int (nI (N_n (S_N S))), .ref 57, .ref 58, .ref 59, .ref 60, .ref 61, .ref 62, .ref 63, .int (nI (N_ns (S_N S))), .ref 64, .ref 65, .int (nI (N_ra (S_N S))), .int (nI (N_se (S_N S))), .int (N_me (S_N S)), .int (N_mi (S_N S)), .ref 66, .ref 67, .int tab, .ref 68, .ref 69, .ref 70, .ref 71, .ref 72, .ref 73, .ref 74, .int (nI (ve + 1)), .int la, .ref 75, .ref 76, .int (nI (S_tl S)), .int at_, .int wr, .ref 77, .ref 78, .int (nI (N_fe (S_N S))), .ref 79, .ref 80, .ref 81, .ref 82, .ref 83, .ref 84, .int (ab_bl (S_K S).isSome), .ref 85, .ref 86, .ref 87, .ref 88]) d_M_set_67 cl_Model k_M_133 (by decide) rfl ⟨rfl, rfl⟩ m0 (Nat.le_of_ble_eq_true rfl) rfl ?_
            refine aw_iload_n d_M_set_70 rfl ?_
            refine aw_if_ne (tgt := 82) d_M_set_71 (by decide) (fun c71 => ?_) (fun c71 => ?_)
            · refine aw_aload_n d_M_set_82 rfl ?_
              refine aw_iload_n d_M_set_83 rfl ?_
              refine aw_put (k := 12) (fs' := [.int (nI (N_n (S_N S))), .ref 57, .ref 58, .ref 59, .ref 60, .ref 61, .ref 62, .ref 63, .int (nI (N_ns (S_N S))), .ref 64, .ref 65, .int (nI (N_ra (S_N S))), .int (nI j), .int (N_me (S_N S)), .int (N_mi (S_N S)), .ref 66, .ref 67, .int tab, .ref 68, .ref 69, .ref 70, .ref 71, .ref 72, .ref 73, .ref 74, .int (nI (ve + 1)), .int la, .ref 75, .ref 76, .int (nI (S_tl S)), .int at_, .int wr, .ref 77, .ref 78, .int (nI (N_fe (S_N S))), .ref 79, .ref 80, .ref 81, .ref 82, .ref 83, .ref 84, .int (ab_bl (S_K S).isSome), .ref 85, .ref 86, .ref 87, .ref 88]) d_M_set_84 cl_Model k_M_41 (by decide) rfl ⟨rfl, rfl⟩ rfl (Nat.le_of_ble_eq_true rfl) rfl ?_
              refine aw_iload_n d_M_set_87 rfl ?_
              refine aw_ireturn d_M_set_88 rfl rfl ?_
              first
                | (subst c71
                   refine ⟨_, S_N_ S (N_ra_ (S_N S) j), rfl, ?_, ⟨⟨tab, la, at_, wr, ve + 1, fs, ft, rfl, by omega, by omega, m3, m4, m5, la_up m6⟩, ⟨n0, n1, n2, n3, n4, n5, n6, n7, n8, n9⟩, q1, q2, q3, q4⟩, rfl, (fun k hk => by rw [ab_set_ne (by omega), ab_set_ne (by omega)])⟩
                   unfold sp_set
                   rw [if_pos ⟨rfl, by first | exact k39 | (exfalso; exact absurd rfl (by assumption))⟩, cl_nI (show j < 2 ^ 31 by first | omega | (exfalso; exact absurd rfl (by assumption)))]
                   done)
                | (exfalso; exact absurd (by assumption) c71)
                | (exfalso; exact absurd (by assumption) c13)
                | (exfalso; exact absurd (by assumption) c24)
                | (exfalso; exact absurd (by assumption) c45)
                | (have k7 := of_decide_eq_true (ab_bl_1.mp c7)
                   rw [i64_toInt, tl0, tl1] at k7
                   have e1 : what = 1 := by
                     rw [fa_eq] at c71 ⊢
                     rw [Int32.toInt_zero] at c71
                     rw [Int32.toInt_one]
                     omega
                   subst e1
                   refine ⟨_, S_N_ S (N_se_ (S_N S) j), rfl, ?_, ⟨⟨tab, la, at_, wr, ve + 1, fs, ft, rfl, by omega, by omega, m3, m4, m5, la_up m6⟩, ⟨n0, n1, n2, n3, n4, n5, n6, n7, n8, n9⟩, q1, q2, q3, q4⟩, rfl, (fun k hk => by rw [ab_set_ne (by omega), ab_set_ne (by omega)])⟩
                   unfold sp_set
                   rw [if_neg (fun q => absurd q.1 (by decide)), if_pos ⟨rfl, k39⟩, cl_nI (show j < 2 ^ 31 by omega)]
                   done)
            · refine aw_aload_n d_M_set_74 rfl ?_
              refine aw_iload_n d_M_set_75 rfl ?_
              refine aw_put (k := 11) (fs' := [.int (nI (N_n (S_N S))), .ref 57, .ref 58, .ref 59, .ref 60, .ref 61, .ref 62, .ref 63, .int (nI (N_ns (S_N S))), .ref 64, .ref 65, .int (nI j), .int (nI (N_se (S_N S))), .int (N_me (S_N S)), .int (N_mi (S_N S)), .ref 66, .ref 67, .int tab, .ref 68, .ref 69, .ref 70, .ref 71, .ref 72, .ref 73, .ref 74, .int (nI (ve + 1)), .int la, .ref 75, .ref 76, .int (nI (S_tl S)), .int at_, .int wr, .ref 77, .ref 78, .int (nI (N_fe (S_N S))), .ref 79, .ref 80, .ref 81, .ref 82, .ref 83, .ref 84, .int (ab_bl (S_K S).isSome), .ref 85, .ref 86, .ref 87, .ref 88]) d_M_set_76 cl_Model k_M_37 (by decide) rfl ⟨rfl, rfl⟩ rfl (Nat.le_of_ble_eq_true rfl) rfl ?_
              refine aw_goto (tgt := 87) d_M_set_79 (by decide) ?_
              refine aw_iload_n d_M_set_87 rfl ?_
              refine aw_ireturn d_M_set_88 rfl rfl ?_
              first
                | (subst c71
                   refine ⟨_, S_N_ S (N_ra_ (S_N S) j), rfl, ?_, ⟨⟨tab, la, at_, wr, ve + 1, fs, ft, rfl, by omega, by omega, m3, m4, m5, la_up m6⟩, ⟨n0, n1, n2, n3, n4, n5, n6, n7, n8, n9⟩, q1, q2, q3, q4⟩, rfl, (fun k hk => by rw [ab_set_ne (by omega), ab_set_ne (by omega)])⟩
                   unfold sp_set
                   rw [if_pos ⟨rfl, by first | exact k39 | (exfalso; exact absurd rfl (by assumption))⟩, cl_nI (show j < 2 ^ 31 by first | omega | (exfalso; exact absurd rfl (by assumption)))]
                   done)
                | (exfalso; exact absurd (by assumption) c71)
                | (exfalso; exact absurd (by assumption) c13)
                | (exfalso; exact absurd (by assumption) c24)
                | (exfalso; exact absurd (by assumption) c45)
                | (have k7 := of_decide_eq_true (ab_bl_1.mp c7)
                   rw [i64_toInt, tl0, tl1] at k7
                   have e1 : what = 1 := by
                     rw [fa_eq] at c71 ⊢
                     rw [Int32.toInt_zero] at c71
                     rw [Int32.toInt_one]
                     omega
                   subst e1
                   refine ⟨_, S_N_ S (N_se_ (S_N S) j), rfl, ?_, ⟨⟨tab, la, at_, wr, ve + 1, fs, ft, rfl, by omega, by omega, m3, m4, m5, la_up m6⟩, ⟨n0, n1, n2, n3, n4, n5, n6, n7, n8, n9⟩, q1, q2, q3, q4⟩, rfl, (fun k hk => by rw [ab_set_ne (by omega), ab_set_ne (by omega)])⟩
                   unfold sp_set
                   rw [if_neg (fun q => absurd q.1 (by decide)), if_pos ⟨rfl, k39⟩, cl_nI (show j < 2 ^ 31 by omega)]
                   done)
        · refine aw_iconst (v := (-1)) d_M_set_42 (by decide) ?_
          refine aw_ireturn d_M_set_43 rfl rfl ?_
          first
            | (exfalso; exact absurd (by assumption) c24)
            | (exfalso; exact absurd (by assumption) c13)
            | (refine ⟨_, S, rfl, ?_, ⟨⟨tab, la, at_, wr, ve, fs, ft, m0, by omega, by omega, m3, m4, m5, m6⟩, ⟨n0, n1, n2, n3, n4, n5, n6, n7, n8, n9⟩, q1, q2, q3, q4⟩, rfl, fun k _ => rfl⟩
               unfold sp_set
               simp only [ab_bl_0, decide_eq_false_iff_not, i64_toInt, tl0, tl1, tl2, tl4, tl9] at c7 c13 c24 c39
               rw [if_neg, if_neg]
               · simp only [fa_eq, Int32.toInt_one, Int32.toInt_zero] at *
                 omega
               · simp only [fa_eq, Int32.toInt_one, Int32.toInt_zero] at *
                 omega)
    · refine aw_lconst (v := lN 1) d_M_set_16 (by decide) ?_
      refine aw_goto (tgt := 23) d_M_set_17 (by decide) ?_
      refine aw_iload_n d_M_set_23 rfl ?_
      refine aw_if_ne (tgt := 33) d_M_set_24 (by decide) (fun c24 => ?_) (fun c24 => ?_)
      · refine aw_ldc2 (v := lN 4) d_M_set_33 k_M_179 ?_
        refine aw_s0i d_M_set_36 k_M_121 ok_M_in rfl ⟨rfl, rfl⟩ (c_in v.toInt64 (lN 1) (lN 4)) rfl rfl (Nat.le_of_ble_eq_true rfl) ?_
        refine aw_if_ne (tgt := 44) d_M_set_39 (by decide) (fun c39 => ?_) (fun c39 => ?_)
        · have k39 := of_decide_eq_true (ab_bl_1.mp c39)
          simp only [i64_toInt, tl1, tl2, tl4, tl9] at k39
          obtain ⟨j, hj, rfl⟩ : ∃ j : Nat, (j : Int) = v.toInt ∧ v = nI j := ⟨cl v, cl_int (by omega), cl_of (by omega)⟩
          refine aw_iload_n d_M_set_44 rfl ?_
          refine aw_if_ne (tgt := 55) d_M_set_45 (by decide) (fun c45 => ?_) (fun c45 => ?_)
          · refine aw_aload_n d_M_set_55 rfl ?_
            refine aw_get (k := 12) d_M_set_56 cl_Model k_M_41 (by decide) m0 rfl ?_
            refine aw_istore_n (L' := [some (.ref 56), some (.int what), some (.int (nI j)), some (.int (nI (N_se (S_N S))))]) d_M_set_59 ⟨by decide, rfl⟩ rfl ?_
            refine aw_aload_n d_M_set_60 rfl ?_
            refine aw_dup d_M_set_61 rfl ?_
            refine aw_get (k := 25) d_M_set_62 cl_Model k_M_133 (by decide) m0 rfl ?_
            refine aw_iconst (v := nI 1) d_M_set_65 (by decide) ?_
            refine aw_iadd d_M_set_66 ?_
            rw [nI_add]
            refine aw_put (k := 25) (fs' := [.int (nI (N_n (S_N S))), .ref 57, .ref 58, .ref 59, .ref 60, .ref 61, .ref 62, .ref 63, .int (nI (N_ns (S_N S))), .ref 64, .ref 65, .int (nI (N_ra (S_N S))), .int (nI (N_se (S_N S))), .int (N_me (S_N S)), .int (N_mi (S_N S)), .ref 66, .ref 67, .int tab, .ref 68, .ref 69, .ref 70, .ref 71, .ref 72, .ref 73, .ref 74, .int (nI (ve + 1)), .int la, .ref 75, .ref 76, .int (nI (S_tl S)), .int at_, .int wr, .ref 77, .ref 78, .int (nI (N_fe (S_N S))), .ref 79, .ref 80, .ref 81, .ref 82, .ref 83, .ref 84, .int (ab_bl (S_K S).isSome), .ref 85, .ref 86, .ref 87, .ref 88]) d_M_set_67 cl_Model k_M_133 (by decide) rfl ⟨rfl, rfl⟩ m0 (Nat.le_of_ble_eq_true rfl) rfl ?_
            refine aw_iload_n d_M_set_70 rfl ?_
            refine aw_if_ne (tgt := 82) d_M_set_71 (by decide) (fun c71 => ?_) (fun c71 => ?_)
            · refine aw_aload_n d_M_set_82 rfl ?_
              refine aw_iload_n d_M_set_83 rfl ?_
              refine aw_put (k := 12) (fs' := [.int (nI (N_n (S_N S))), .ref 57, .ref 58, .ref 59, .ref 60, .ref 61, .ref 62, .ref 63, .int (nI (N_ns (S_N S))), .ref 64, .ref 65, .int (nI (N_ra (S_N S))), .int (nI j), .int (N_me (S_N S)), .int (N_mi (S_N S)), .ref 66, .ref 67, .int tab, .ref 68, .ref 69, .ref 70, .ref 71, .ref 72, .ref 73, .ref 74, .int (nI (ve + 1)), .int la, .ref 75, .ref 76, .int (nI (S_tl S)), .int at_, .int wr, .ref 77, .ref 78, .int (nI (N_fe (S_N S))), .ref 79, .ref 80, .ref 81, .ref 82, .ref 83, .ref 84, .int (ab_bl (S_K S).isSome), .ref 85, .ref 86, .ref 87, .ref 88]) d_M_set_84 cl_Model k_M_41 (by decide) rfl ⟨rfl, rfl⟩ rfl (Nat.le_of_ble_eq_true rfl) rfl ?_
              refine aw_iload_n d_M_set_87 rfl ?_
              refine aw_ireturn d_M_set_88 rfl rfl ?_
              first
                | (subst c71
                   refine ⟨_, S_N_ S (N_ra_ (S_N S) j), rfl, ?_, ⟨⟨tab, la, at_, wr, ve + 1, fs, ft, rfl, by omega, by omega, m3, m4, m5, la_up m6⟩, ⟨n0, n1, n2, n3, n4, n5, n6, n7, n8, n9⟩, q1, q2, q3, q4⟩, rfl, (fun k hk => by rw [ab_set_ne (by omega), ab_set_ne (by omega)])⟩
                   unfold sp_set
                   rw [if_pos ⟨rfl, by first | exact k39 | (exfalso; exact absurd rfl (by assumption))⟩, cl_nI (show j < 2 ^ 31 by first | omega | (exfalso; exact absurd rfl (by assumption)))]
                   done)
                | (exfalso; exact absurd (by assumption) c71)
                | (exfalso; exact absurd (by assumption) c13)
                | (exfalso; exact absurd (by assumption) c24)
                | (exfalso; exact absurd (by assumption) c45)
                | (have k7 := of_decide_eq_true (ab_bl_1.mp c7)
                   rw [i64_toInt, tl0, tl1] at k7
                   have e1 : what = 1 := by
                     rw [fa_eq] at c71 ⊢
                     rw [Int32.toInt_zero] at c71
                     rw [Int32.toInt_one]
                     omega
                   subst e1
                   refine ⟨_, S_N_ S (N_se_ (S_N S) j), rfl, ?_, ⟨⟨tab, la, at_, wr, ve + 1, fs, ft, rfl, by omega, by omega, m3, m4, m5, la_up m6⟩, ⟨n0, n1, n2, n3, n4, n5, n6, n7, n8, n9⟩, q1, q2, q3, q4⟩, rfl, (fun k hk => by rw [ab_set_ne (by omega), ab_set_ne (by omega)])⟩
                   unfold sp_set
                   rw [if_neg (fun q => absurd q.1 (by decide)), if_pos ⟨rfl, k39⟩, cl_nI (show j < 2 ^ 31 by omega)]
                   done)
            · refine aw_aload_n d_M_set_74 rfl ?_
              refine aw_iload_n d_M_set_75 rfl ?_
              refine aw_put (k := 11) (fs' := [.int (nI (N_n (S_N S))), .ref 57, .ref 58, .ref 59, .ref 60, .ref 61, .ref 62, .ref 63, .int (nI (N_ns (S_N S))), .ref 64, .ref 65, .int (nI j), .int (nI (N_se (S_N S))), .int (N_me (S_N S)), .int (N_mi (S_N S)), .ref 66, .ref 67, .int tab, .ref 68, .ref 69, .ref 70, .ref 71, .ref 72, .ref 73, .ref 74, .int (nI (ve + 1)), .int la, .ref 75, .ref 76, .int (nI (S_tl S)), .int at_, .int wr, .ref 77, .ref 78, .int (nI (N_fe (S_N S))), .ref 79, .ref 80, .ref 81, .ref 82, .ref 83, .ref 84, .int (ab_bl (S_K S).isSome), .ref 85, .ref 86, .ref 87, .ref 88]) d_M_set_76 cl_Model k_M_37 (by decide) rfl ⟨rfl, rfl⟩ rfl (Nat.le_of_ble_eq_true rfl) rfl ?_
              refine aw_goto (tgt := 87) d_M_set_79 (by decide) ?_
              refine aw_iload_n d_M_set_87 rfl ?_
              refine aw_ireturn d_M_set_88 rfl rfl ?_
              first
                | (subst c71
                   refine ⟨_, S_N_ S (N_ra_ (S_N S) j), rfl, ?_, ⟨⟨tab, la, at_, wr, ve + 1, fs, ft, rfl, by omega, by omega, m3, m4, m5, la_up m6⟩, ⟨n0, n1, n2, n3, n4, n5, n6, n7, n8, n9⟩, q1, q2, q3, q4⟩, rfl, (fun k hk => by rw [ab_set_ne (by omega), ab_set_ne (by omega)])⟩
                   unfold sp_set
                   rw [if_pos ⟨rfl, by first | exact k39 | (exfalso; exact absurd rfl (by assumption))⟩, cl_nI (show j < 2 ^ 31 by first | omega | (exfalso; exact absurd rfl (by assumption)))]
                   done)
                | (exfalso; exact absurd (by assumption) c71)
                | (exfalso; exact absurd (by assumption) c13)
                | (exfalso; exact absurd (by assumption) c24)
                | (exfalso; exact absurd (by assumption) c45)
                | (have k7 := of_decide_eq_true (ab_bl_1.mp c7)
                   rw [i64_toInt, tl0, tl1] at k7
                   have e1 : what = 1 := by
                     rw [fa_eq] at c71 ⊢
                     rw [Int32.toInt_zero] at c71
                     rw [Int32.toInt_one]
                     omega
                   subst e1
                   refine ⟨_, S_N_ S (N_se_ (S_N S) j), rfl, ?_, ⟨⟨tab, la, at_, wr, ve + 1, fs, ft, rfl, by omega, by omega, m3, m4, m5, la_up m6⟩, ⟨n0, n1, n2, n3, n4, n5, n6, n7, n8, n9⟩, q1, q2, q3, q4⟩, rfl, (fun k hk => by rw [ab_set_ne (by omega), ab_set_ne (by omega)])⟩
                   unfold sp_set
                   rw [if_neg (fun q => absurd q.1 (by decide)), if_pos ⟨rfl, k39⟩, cl_nI (show j < 2 ^ 31 by omega)]
                   done)
          · refine aw_aload_n d_M_set_48 rfl ?_
            refine aw_get (k := 11) d_M_set_49 cl_Model k_M_37 (by decide) m0 rfl ?_
            refine aw_goto (tgt := 59) d_M_set_52 (by decide) ?_
            refine aw_istore_n (L' := [some (.ref 56), some (.int what), some (.int (nI j)), some (.int (nI (N_ra (S_N S))))]) d_M_set_59 ⟨by decide, rfl⟩ rfl ?_
            refine aw_aload_n d_M_set_60 rfl ?_
            refine aw_dup d_M_set_61 rfl ?_
            refine aw_get (k := 25) d_M_set_62 cl_Model k_M_133 (by decide) m0 rfl ?_
            refine aw_iconst (v := nI 1) d_M_set_65 (by decide) ?_
            refine aw_iadd d_M_set_66 ?_
            rw [nI_add]
            refine aw_put (k := 25) (fs' := [.int (nI (N_n (S_N S))), .ref 57, .ref 58, .ref 59, .ref 60, .ref 61, .ref 62, .ref 63, .int (nI (N_ns (S_N S))), .ref 64, .ref 65, .int (nI (N_ra (S_N S))), .int (nI (N_se (S_N S))), .int (N_me (S_N S)), .int (N_mi (S_N S)), .ref 66, .ref 67, .int tab, .ref 68, .ref 69, .ref 70, .ref 71, .ref 72, .ref 73, .ref 74, .int (nI (ve + 1)), .int la, .ref 75, .ref 76, .int (nI (S_tl S)), .int at_, .int wr, .ref 77, .ref 78, .int (nI (N_fe (S_N S))), .ref 79, .ref 80, .ref 81, .ref 82, .ref 83, .ref 84, .int (ab_bl (S_K S).isSome), .ref 85, .ref 86, .ref 87, .ref 88]) d_M_set_67 cl_Model k_M_133 (by decide) rfl ⟨rfl, rfl⟩ m0 (Nat.le_of_ble_eq_true rfl) rfl ?_
            refine aw_iload_n d_M_set_70 rfl ?_
            refine aw_if_ne (tgt := 82) d_M_set_71 (by decide) (fun c71 => ?_) (fun c71 => ?_)
            · refine aw_aload_n d_M_set_82 rfl ?_
              refine aw_iload_n d_M_set_83 rfl ?_
              refine aw_put (k := 12) (fs' := [.int (nI (N_n (S_N S))), .ref 57, .ref 58, .ref 59, .ref 60, .ref 61, .ref 62, .ref 63, .int (nI (N_ns (S_N S))), .ref 64, .ref 65, .int (nI (N_ra (S_N S))), .int (nI j), .int (N_me (S_N S)), .int (N_mi (S_N S)), .ref 66, .ref 67, .int tab, .ref 68, .ref 69, .ref 70, .ref 71, .ref 72, .ref 73, .ref 74, .int (nI (ve + 1)), .int la, .ref 75, .ref 76, .int (nI (S_tl S)), .int at_, .int wr, .ref 77, .ref 78, .int (nI (N_fe (S_N S))), .ref 79, .ref 80, .ref 81, .ref 82, .ref 83, .ref 84, .int (ab_bl (S_K S).isSome), .ref 85, .ref 86, .ref 87, .ref 88]) d_M_set_84 cl_Model k_M_41 (by decide) rfl ⟨rfl, rfl⟩ rfl (Nat.le_of_ble_eq_true rfl) rfl ?_
              refine aw_iload_n d_M_set_87 rfl ?_
              refine aw_ireturn d_M_set_88 rfl rfl ?_
              first
                | (subst c71
                   refine ⟨_, S_N_ S (N_ra_ (S_N S) j), rfl, ?_, ⟨⟨tab, la, at_, wr, ve + 1, fs, ft, rfl, by omega, by omega, m3, m4, m5, la_up m6⟩, ⟨n0, n1, n2, n3, n4, n5, n6, n7, n8, n9⟩, q1, q2, q3, q4⟩, rfl, (fun k hk => by rw [ab_set_ne (by omega), ab_set_ne (by omega)])⟩
                   unfold sp_set
                   rw [if_pos ⟨rfl, by first | exact k39 | (exfalso; exact absurd rfl (by assumption))⟩, cl_nI (show j < 2 ^ 31 by first | omega | (exfalso; exact absurd rfl (by assumption)))]
                   done)
                | (exfalso; exact absurd (by assumption) c71)
                | (exfalso; exact absurd (by assumption) c13)
                | (exfalso; exact absurd (by assumption) c24)
                | (exfalso; exact absurd (by assumption) c45)
                | (have k7 := of_decide_eq_true (ab_bl_1.mp c7)
                   rw [i64_toInt, tl0, tl1] at k7
                   have e1 : what = 1 := by
                     rw [fa_eq] at c71 ⊢
                     rw [Int32.toInt_zero] at c71
                     rw [Int32.toInt_one]
                     omega
                   subst e1
                   refine ⟨_, S_N_ S (N_se_ (S_N S) j), rfl, ?_, ⟨⟨tab, la, at_, wr, ve + 1, fs, ft, rfl, by omega, by omega, m3, m4, m5, la_up m6⟩, ⟨n0, n1, n2, n3, n4, n5, n6, n7, n8, n9⟩, q1, q2, q3, q4⟩, rfl, (fun k hk => by rw [ab_set_ne (by omega), ab_set_ne (by omega)])⟩
                   unfold sp_set
                   rw [if_neg (fun q => absurd q.1 (by decide)), if_pos ⟨rfl, k39⟩, cl_nI (show j < 2 ^ 31 by omega)]
                   done)
            · refine aw_aload_n d_M_set_74 rfl ?_
              refine aw_iload_n d_M_set_75 rfl ?_
              refine aw_put (k := 11) (fs' := [.int (nI (N_n (S_N S))), .ref 57, .ref 58, .ref 59, .ref 60, .ref 61, .ref 62, .ref 63, .int (nI (N_ns (S_N S))), .ref 64, .ref 65, .int (nI j), .int (nI (N_se (S_N S))), .int (N_me (S_N S)), .int (N_mi (S_N S)), .ref 66, .ref 67, .int tab, .ref 68, .ref 69, .ref 70, .ref 71, .ref 72, .ref 73, .ref 74, .int (nI (ve + 1)), .int la, .ref 75, .ref 76, .int (nI (S_tl S)), .int at_, .int wr, .ref 77, .ref 78, .int (nI (N_fe (S_N S))), .ref 79, .ref 80, .ref 81, .ref 82, .ref 83, .ref 84, .int (ab_bl (S_K S).isSome), .ref 85, .ref 86, .ref 87, .ref 88]) d_M_set_76 cl_Model k_M_37 (by decide) rfl ⟨rfl, rfl⟩ rfl (Nat.le_of_ble_eq_true rfl) rfl ?_
              refine aw_goto (tgt := 87) d_M_set_79 (by decide) ?_
              refine aw_iload_n d_M_set_87 rfl ?_
              refine aw_ireturn d_M_set_88 rfl rfl ?_
              first
                | (subst c71
                   refine ⟨_, S_N_ S (N_ra_ (S_N S) j), rfl, ?_, ⟨⟨tab, la, at_, wr, ve + 1, fs, ft, rfl, by omega, by omega, m3, m4, m5, la_up m6⟩, ⟨n0, n1, n2, n3, n4, n5, n6, n7, n8, n9⟩, q1, q2, q3, q4⟩, rfl, (fun k hk => by rw [ab_set_ne (by omega), ab_set_ne (by omega)])⟩
                   unfold sp_set
                   rw [if_pos ⟨rfl, by first | exact k39 | (exfalso; exact absurd rfl (by assumption))⟩, cl_nI (show j < 2 ^ 31 by first | omega | (exfalso; exact absurd rfl (by assumption)))]
                   done)
                | (exfalso; exact absurd (by assumption) c71)
                | (exfalso; exact absurd (by assumption) c13)
                | (exfalso; exact absurd (by assumption) c24)
                | (exfalso; exact absurd (by assumption) c45)
                | (have k7 := of_decide_eq_true (ab_bl_1.mp c7)
                   rw [i64_toInt, tl0, tl1] at k7
                   have e1 : what = 1 := by
                     rw [fa_eq] at c71 ⊢
                     rw [Int32.toInt_zero] at c71
                     rw [Int32.toInt_one]
                     omega
                   subst e1
                   refine ⟨_, S_N_ S (N_se_ (S_N S) j), rfl, ?_, ⟨⟨tab, la, at_, wr, ve + 1, fs, ft, rfl, by omega, by omega, m3, m4, m5, la_up m6⟩, ⟨n0, n1, n2, n3, n4, n5, n6, n7, n8, n9⟩, q1, q2, q3, q4⟩, rfl, (fun k hk => by rw [ab_set_ne (by omega), ab_set_ne (by omega)])⟩
                   unfold sp_set
                   rw [if_neg (fun q => absurd q.1 (by decide)), if_pos ⟨rfl, k39⟩, cl_nI (show j < 2 ^ 31 by omega)]
                   done)
        · refine aw_iconst (v := (-1)) d_M_set_42 (by decide) ?_
          refine aw_ireturn d_M_set_43 rfl rfl ?_
          first
            | (exfalso; exact absurd (by assumption) c24)
            | (exfalso; exact absurd (by assumption) c13)
            | (refine ⟨_, S, rfl, ?_, ⟨⟨tab, la, at_, wr, ve, fs, ft, m0, by omega, by omega, m3, m4, m5, m6⟩, ⟨n0, n1, n2, n3, n4, n5, n6, n7, n8, n9⟩, q1, q2, q3, q4⟩, rfl, fun k _ => rfl⟩
               unfold sp_set
               simp only [ab_bl_0, decide_eq_false_iff_not, i64_toInt, tl0, tl1, tl2, tl4, tl9] at c7 c13 c24 c39
               rw [if_neg, if_neg]
               · simp only [fa_eq, Int32.toInt_one, Int32.toInt_zero] at *
                 omega
               · simp only [fa_eq, Int32.toInt_one, Int32.toInt_zero] at *
                 omega)
      · refine aw_ldc2 (v := lN 9) d_M_set_27 k_M_154 ?_
        refine aw_goto (tgt := 36) d_M_set_30 (by decide) ?_
        refine aw_s0i d_M_set_36 k_M_121 ok_M_in rfl ⟨rfl, rfl⟩ (c_in v.toInt64 (lN 1) (lN 9)) rfl rfl (Nat.le_of_ble_eq_true rfl) ?_
        refine aw_if_ne (tgt := 44) d_M_set_39 (by decide) (fun c39 => ?_) (fun c39 => ?_)
        · have k39 := of_decide_eq_true (ab_bl_1.mp c39)
          simp only [i64_toInt, tl1, tl2, tl4, tl9] at k39
          obtain ⟨j, hj, rfl⟩ : ∃ j : Nat, (j : Int) = v.toInt ∧ v = nI j := ⟨cl v, cl_int (by omega), cl_of (by omega)⟩
          refine aw_iload_n d_M_set_44 rfl ?_
          refine aw_if_ne (tgt := 55) d_M_set_45 (by decide) (fun c45 => ?_) (fun c45 => ?_)
          · refine aw_aload_n d_M_set_55 rfl ?_
            refine aw_get (k := 12) d_M_set_56 cl_Model k_M_41 (by decide) m0 rfl ?_
            refine aw_istore_n (L' := [some (.ref 56), some (.int what), some (.int (nI j)), some (.int (nI (N_se (S_N S))))]) d_M_set_59 ⟨by decide, rfl⟩ rfl ?_
            refine aw_aload_n d_M_set_60 rfl ?_
            refine aw_dup d_M_set_61 rfl ?_
            refine aw_get (k := 25) d_M_set_62 cl_Model k_M_133 (by decide) m0 rfl ?_
            refine aw_iconst (v := nI 1) d_M_set_65 (by decide) ?_
            refine aw_iadd d_M_set_66 ?_
            rw [nI_add]
            refine aw_put (k := 25) (fs' := [.int (nI (N_n (S_N S))), .ref 57, .ref 58, .ref 59, .ref 60, .ref 61, .ref 62, .ref 63, .int (nI (N_ns (S_N S))), .ref 64, .ref 65, .int (nI (N_ra (S_N S))), .int (nI (N_se (S_N S))), .int (N_me (S_N S)), .int (N_mi (S_N S)), .ref 66, .ref 67, .int tab, .ref 68, .ref 69, .ref 70, .ref 71, .ref 72, .ref 73, .ref 74, .int (nI (ve + 1)), .int la, .ref 75, .ref 76, .int (nI (S_tl S)), .int at_, .int wr, .ref 77, .ref 78, .int (nI (N_fe (S_N S))), .ref 79, .ref 80, .ref 81, .ref 82, .ref 83, .ref 84, .int (ab_bl (S_K S).isSome), .ref 85, .ref 86, .ref 87, .ref 88]) d_M_set_67 cl_Model k_M_133 (by decide) rfl ⟨rfl, rfl⟩ m0 (Nat.le_of_ble_eq_true rfl) rfl ?_
            refine aw_iload_n d_M_set_70 rfl ?_
            refine aw_if_ne (tgt := 82) d_M_set_71 (by decide) (fun c71 => ?_) (fun c71 => ?_)
            · refine aw_aload_n d_M_set_82 rfl ?_
              refine aw_iload_n d_M_set_83 rfl ?_
              refine aw_put (k := 12) (fs' := [.int (nI (N_n (S_N S))), .ref 57, .ref 58, .ref 59, .ref 60, .ref 61, .ref 62, .ref 63, .int (nI (N_ns (S_N S))), .ref 64, .ref 65, .int (nI (N_ra (S_N S))), .int (nI j), .int (N_me (S_N S)), .int (N_mi (S_N S)), .ref 66, .ref 67, .int tab, .ref 68, .ref 69, .ref 70, .ref 71, .ref 72, .ref 73, .ref 74, .int (nI (ve + 1)), .int la, .ref 75, .ref 76, .int (nI (S_tl S)), .int at_, .int wr, .ref 77, .ref 78, .int (nI (N_fe (S_N S))), .ref 79, .ref 80, .ref 81, .ref 82, .ref 83, .ref 84, .int (ab_bl (S_K S).isSome), .ref 85, .ref 86, .ref 87, .ref 88]) d_M_set_84 cl_Model k_M_41 (by decide) rfl ⟨rfl, rfl⟩ rfl (Nat.le_of_ble_eq_true rfl) rfl ?_
              refine aw_iload_n d_M_set_87 rfl ?_
              refine aw_ireturn d_M_set_88 rfl rfl ?_
              first
                | (subst c71
                   refine ⟨_, S_N_ S (N_ra_ (S_N S) j), rfl, ?_, ⟨⟨tab, la, at_, wr, ve + 1, fs, ft, rfl, by omega, by omega, m3, m4, m5, la_up m6⟩, ⟨n0, n1, n2, n3, n4, n5, n6, n7, n8, n9⟩, q1, q2, q3, q4⟩, rfl, (fun k hk => by rw [ab_set_ne (by omega), ab_set_ne (by omega)])⟩
                   unfold sp_set
                   rw [if_pos ⟨rfl, by first | exact k39 | (exfalso; exact absurd rfl (by assumption))⟩, cl_nI (show j < 2 ^ 31 by first | omega | (exfalso; exact absurd rfl (by assumption)))]
                   done)
                | (exfalso; exact absurd (by assumption) c71)
                | (exfalso; exact absurd (by assumption) c13)
                | (exfalso; exact absurd (by assumption) c24)
                | (exfalso; exact absurd (by assumption) c45)
                | (have k7 := of_decide_eq_true (ab_bl_1.mp c7)
                   rw [i64_toInt, tl0, tl1] at k7
                   have e1 : what = 1 := by
                     rw [fa_eq] at c71 ⊢
                     rw [Int32.toInt_zero] at c71
                     rw [Int32.toInt_one]
                     omega
                   subst e1
                   refine ⟨_, S_N_ S (N_se_ (S_N S) j), rfl, ?_, ⟨⟨tab, la, at_, wr, ve + 1, fs, ft, rfl, by omega, by omega, m3, m4, m5, la_up m6⟩, ⟨n0, n1, n2, n3, n4, n5, n6, n7, n8, n9⟩, q1, q2, q3, q4⟩, rfl, (fun k hk => by rw [ab_set_ne (by omega), ab_set_ne (by omega)])⟩
                   unfold sp_set
                   rw [if_neg (fun q => absurd q.1 (by decide)), if_pos ⟨rfl, k39⟩, cl_nI (show j < 2 ^ 31 by omega)]
                   done)
            · refine aw_aload_n d_M_set_74 rfl ?_
              refine aw_iload_n d_M_set_75 rfl ?_
              refine aw_put (k := 11) (fs' := [.int (nI (N_n (S_N S))), .ref 57, .ref 58, .ref 59, .ref 60, .ref 61, .ref 62, .ref 63, .int (nI (N_ns (S_N S))), .ref 64, .ref 65, .int (nI j), .int (nI (N_se (S_N S))), .int (N_me (S_N S)), .int (N_mi (S_N S)), .ref 66, .ref 67, .int tab, .ref 68, .ref 69, .ref 70, .ref 71, .ref 72, .ref 73, .ref 74, .int (nI (ve + 1)), .int la, .ref 75, .ref 76, .int (nI (S_tl S)), .int at_, .int wr, .ref 77, .ref 78, .int (nI (N_fe (S_N S))), .ref 79, .ref 80, .ref 81, .ref 82, .ref 83, .ref 84, .int (ab_bl (S_K S).isSome), .ref 85, .ref 86, .ref 87, .ref 88]) d_M_set_76 cl_Model k_M_37 (by decide) rfl ⟨rfl, rfl⟩ rfl (Nat.le_of_ble_eq_true rfl) rfl ?_
              refine aw_goto (tgt := 87) d_M_set_79 (by decide) ?_
              refine aw_iload_n d_M_set_87 rfl ?_
              refine aw_ireturn d_M_set_88 rfl rfl ?_
              first
                | (subst c71
                   refine ⟨_, S_N_ S (N_ra_ (S_N S) j), rfl, ?_, ⟨⟨tab, la, at_, wr, ve + 1, fs, ft, rfl, by omega, by omega, m3, m4, m5, la_up m6⟩, ⟨n0, n1, n2, n3, n4, n5, n6, n7, n8, n9⟩, q1, q2, q3, q4⟩, rfl, (fun k hk => by rw [ab_set_ne (by omega), ab_set_ne (by omega)])⟩
                   unfold sp_set
                   rw [if_pos ⟨rfl, by first | exact k39 | (exfalso; exact absurd rfl (by assumption))⟩, cl_nI (show j < 2 ^ 31 by first | omega | (exfalso; exact absurd rfl (by assumption)))]
                   done)
                | (exfalso; exact absurd (by assumption) c71)
                | (exfalso; exact absurd (by assumption) c13)
                | (exfalso; exact absurd (by assumption) c24)
                | (exfalso; exact absurd (by assumption) c45)
                | (have k7 := of_decide_eq_true (ab_bl_1.mp c7)
                   rw [i64_toInt, tl0, tl1] at k7
                   have e1 : what = 1 := by
                     rw [fa_eq] at c71 ⊢
                     rw [Int32.toInt_zero] at c71
                     rw [Int32.toInt_one]
                     omega
                   subst e1
                   refine ⟨_, S_N_ S (N_se_ (S_N S) j), rfl, ?_, ⟨⟨tab, la, at_, wr, ve + 1, fs, ft, rfl, by omega, by omega, m3, m4, m5, la_up m6⟩, ⟨n0, n1, n2, n3, n4, n5, n6, n7, n8, n9⟩, q1, q2, q3, q4⟩, rfl, (fun k hk => by rw [ab_set_ne (by omega), ab_set_ne (by omega)])⟩
                   unfold sp_set
                   rw [if_neg (fun q => absurd q.1 (by decide)), if_pos ⟨rfl, k39⟩, cl_nI (show j < 2 ^ 31 by omega)]
                   done)
          · refine aw_aload_n d_M_set_48 rfl ?_
            refine aw_get (k := 11) d_M_set_49 cl_Model k_M_37 (by decide) m0 rfl ?_
            refine aw_goto (tgt := 59) d_M_set_52 (by decide) ?_
            refine aw_istore_n (L' := [some (.ref 56), some (.int what), some (.int (nI j)), some (.int (nI (N_ra (S_N S))))]) d_M_set_59 ⟨by decide, rfl⟩ rfl ?_
            refine aw_aload_n d_M_set_60 rfl ?_
            refine aw_dup d_M_set_61 rfl ?_
            refine aw_get (k := 25) d_M_set_62 cl_Model k_M_133 (by decide) m0 rfl ?_
            refine aw_iconst (v := nI 1) d_M_set_65 (by decide) ?_
            refine aw_iadd d_M_set_66 ?_
            rw [nI_add]
            refine aw_put (k := 25) (fs' := [.int (nI (N_n (S_N S))), .ref 57, .ref 58, .ref 59, .ref 60, .ref 61, .ref 62, .ref 63, .int (nI (N_ns (S_N S))), .ref 64, .ref 65, .int (nI (N_ra (S_N S))), .int (nI (N_se (S_N S))), .int (N_me (S_N S)), .int (N_mi (S_N S)), .ref 66, .ref 67, .int tab, .ref 68, .ref 69, .ref 70, .ref 71, .ref 72, .ref 73, .ref 74, .int (nI (ve + 1)), .int la, .ref 75, .ref 76, .int (nI (S_tl S)), .int at_, .int wr, .ref 77, .ref 78, .int (nI (N_fe (S_N S))), .ref 79, .ref 80, .ref 81, .ref 82, .ref 83, .ref 84, .int (ab_bl (S_K S).isSome), .ref 85, .ref 86, .ref 87, .ref 88]) d_M_set_67 cl_Model k_M_133 (by decide) rfl ⟨rfl, rfl⟩ m0 (Nat.le_of_ble_eq_true rfl) rfl ?_
            refine aw_iload_n d_M_set_70 rfl ?_
            refine aw_if_ne (tgt := 82) d_M_set_71 (by decide) (fun c71 => ?_) (fun c71 => ?_)
            · refine aw_aload_n d_M_set_82 rfl ?_
              refine aw_iload_n d_M_set_83 rfl ?_
              refine aw_put (k := 12) (fs' := [.int (nI (N_n (S_N S))), .ref 57, .ref 58, .ref 59, .ref 60, .ref 61, .ref 62, .ref 63, .int (nI (N_ns (S_N S))), .ref 64, .ref 65, .int (nI (N_ra (S_N S))), .int (nI j), .int (N_me (S_N S)), .int (N_mi (S_N S)), .ref 66, .ref 67, .int tab, .ref 68, .ref 69, .ref 70, .ref 71, .ref 72, .ref 73, .ref 74, .int (nI (ve + 1)), .int la, .ref 75, .ref 76, .int (nI (S_tl S)), .int at_, .int wr, .ref 77, .ref 78, .int (nI (N_fe (S_N S))), .ref 79, .ref 80, .ref 81, .ref 82, .ref 83, .ref 84, .int (ab_bl (S_K S).isSome), .ref 85, .ref 86, .ref 87, .ref 88]) d_M_set_84 cl_Model k_M_41 (by decide) rfl ⟨rfl, rfl⟩ rfl (Nat.le_of_ble_eq_true rfl) rfl ?_
              refine aw_iload_n d_M_set_87 rfl ?_
              refine aw_ireturn d_M_set_88 rfl rfl ?_
              first
                | (subst c71
                   refine ⟨_, S_N_ S (N_ra_ (S_N S) j), rfl, ?_, ⟨⟨tab, la, at_, wr, ve + 1, fs, ft, rfl, by omega, by omega, m3, m4, m5, la_up m6⟩, ⟨n0, n1, n2, n3, n4, n5, n6, n7, n8, n9⟩, q1, q2, q3, q4⟩, rfl, (fun k hk => by rw [ab_set_ne (by omega), ab_set_ne (by omega)])⟩
                   unfold sp_set
                   rw [if_pos ⟨rfl, by first | exact k39 | (exfalso; exact absurd rfl (by assumption))⟩, cl_nI (show j < 2 ^ 31 by first | omega | (exfalso; exact absurd rfl (by assumption)))]
                   done)
                | (exfalso; exact absurd (by assumption) c71)
                | (exfalso; exact absurd (by assumption) c13)
                | (exfalso; exact absurd (by assumption) c24)
                | (exfalso; exact absurd (by assumption) c45)
                | (have k7 := of_decide_eq_true (ab_bl_1.mp c7)
                   rw [i64_toInt, tl0, tl1] at k7
                   have e1 : what = 1 := by
                     rw [fa_eq] at c71 ⊢
                     rw [Int32.toInt_zero] at c71
                     rw [Int32.toInt_one]
                     omega
                   subst e1
                   refine ⟨_, S_N_ S (N_se_ (S_N S) j), rfl, ?_, ⟨⟨tab, la, at_, wr, ve + 1, fs, ft, rfl, by omega, by omega, m3, m4, m5, la_up m6⟩, ⟨n0, n1, n2, n3, n4, n5, n6, n7, n8, n9⟩, q1, q2, q3, q4⟩, rfl, (fun k hk => by rw [ab_set_ne (by omega), ab_set_ne (by omega)])⟩
                   unfold sp_set
                   rw [if_neg (fun q => absurd q.1 (by decide)), if_pos ⟨rfl, k39⟩, cl_nI (show j < 2 ^ 31 by omega)]
                   done)
            · refine aw_aload_n d_M_set_74 rfl ?_
              refine aw_iload_n d_M_set_75 rfl ?_
              refine aw_put (k := 11) (fs' := [.int (nI (N_n (S_N S))), .ref 57, .ref 58, .ref 59, .ref 60, .ref 61, .ref 62, .ref 63, .int (nI (N_ns (S_N S))), .ref 64, .ref 65, .int (nI j), .int (nI (N_se (S_N S))), .int (N_me (S_N S)), .int (N_mi (S_N S)), .ref 66, .ref 67, .int tab, .ref 68, .ref 69, .ref 70, .ref 71, .ref 72, .ref 73, .ref 74, .int (nI (ve + 1)), .int la, .ref 75, .ref 76, .int (nI (S_tl S)), .int at_, .int wr, .ref 77, .ref 78, .int (nI (N_fe (S_N S))), .ref 79, .ref 80, .ref 81, .ref 82, .ref 83, .ref 84, .int (ab_bl (S_K S).isSome), .ref 85, .ref 86, .ref 87, .ref 88]) d_M_set_76 cl_Model k_M_37 (by decide) rfl ⟨rfl, rfl⟩ rfl (Nat.le_of_ble_eq_true rfl) rfl ?_
              refine aw_goto (tgt := 87) d_M_set_79 (by decide) ?_
              refine aw_iload_n d_M_set_87 rfl ?_
              refine aw_ireturn d_M_set_88 rfl rfl ?_
              first
                | (subst c71
                   refine ⟨_, S_N_ S (N_ra_ (S_N S) j), rfl, ?_, ⟨⟨tab, la, at_, wr, ve + 1, fs, ft, rfl, by omega, by omega, m3, m4, m5, la_up m6⟩, ⟨n0, n1, n2, n3, n4, n5, n6, n7, n8, n9⟩, q1, q2, q3, q4⟩, rfl, (fun k hk => by rw [ab_set_ne (by omega), ab_set_ne (by omega)])⟩
                   unfold sp_set
                   rw [if_pos ⟨rfl, by first | exact k39 | (exfalso; exact absurd rfl (by assumption))⟩, cl_nI (show j < 2 ^ 31 by first | omega | (exfalso; exact absurd rfl (by assumption)))]
                   done)
                | (exfalso; exact absurd (by assumption) c71)
                | (exfalso; exact absurd (by assumption) c13)
                | (exfalso; exact absurd (by assumption) c24)
                | (exfalso; exact absurd (by assumption) c45)
                | (have k7 := of_decide_eq_true (ab_bl_1.mp c7)
                   rw [i64_toInt, tl0, tl1] at k7
                   have e1 : what = 1 := by
                     rw [fa_eq] at c71 ⊢
                     rw [Int32.toInt_zero] at c71
                     rw [Int32.toInt_one]
                     omega
                   subst e1
                   refine ⟨_, S_N_ S (N_se_ (S_N S) j), rfl, ?_, ⟨⟨tab, la, at_, wr, ve + 1, fs, ft, rfl, by omega, by omega, m3, m4, m5, la_up m6⟩, ⟨n0, n1, n2, n3, n4, n5, n6, n7, n8, n9⟩, q1, q2, q3, q4⟩, rfl, (fun k hk => by rw [ab_set_ne (by omega), ab_set_ne (by omega)])⟩
                   unfold sp_set
                   rw [if_neg (fun q => absurd q.1 (by decide)), if_pos ⟨rfl, k39⟩, cl_nI (show j < 2 ^ 31 by omega)]
                   done)
        · refine aw_iconst (v := (-1)) d_M_set_42 (by decide) ?_
          refine aw_ireturn d_M_set_43 rfl rfl ?_
          first
            | (exfalso; exact absurd (by assumption) c24)
            | (exfalso; exact absurd (by assumption) c13)
            | (refine ⟨_, S, rfl, ?_, ⟨⟨tab, la, at_, wr, ve, fs, ft, m0, by omega, by omega, m3, m4, m5, m6⟩, ⟨n0, n1, n2, n3, n4, n5, n6, n7, n8, n9⟩, q1, q2, q3, q4⟩, rfl, fun k _ => rfl⟩
               unfold sp_set
               simp only [ab_bl_0, decide_eq_false_iff_not, i64_toInt, tl0, tl1, tl2, tl4, tl9] at c7 c13 c24 c39
               rw [if_neg, if_neg]
               · simp only [fa_eq, Int32.toInt_one, Int32.toInt_zero] at *
                 omega
               · simp only [fa_eq, Int32.toInt_one, Int32.toInt_zero] at *
                 omega)
theorem c_M_isSlip {m : Nat} {h : ab_H} {n ns ra se : Nat} {me mi tab ve la : Int32} {tl : Nat} {at_ wr : Int32} {fe : Nat} {kp : Bool} (hM : h 56 = oM n ns ra se me mi tab ve la tl at_ wr fe kp) (hn : n ≤ 6) (a i j : Int32) : ab_D Y_M_isSlip [.ref 56, .int a, .int i, .int j] m h (some (.int (ab_bl (decide (ir a 0 2 ∧ 0 ≤ i.toInt ∧ i.toInt < j.toInt ∧ j.toInt < n))))) m (h) := by
  refine ab_C.of (L := [some (.ref 56), some (.int a), some (.int i), some (.int j)]) rfl rfl (Nat.le_of_ble_eq_true rfl) (fun l => ?_)
  have e1 := n_1T hn
  have e2 : (i.toInt64 + lN 1).toInt = i.toInt + 1 := by
    have hr := fb_rng i
    rw [Int64.toInt_add, i64_toInt, tl1]
    apply Int.bmod_eq_of_le <;> omega
  refine aw_iload_n d_M_isSlip_0 rfl ?_
  refine aw_i2l d_M_isSlip_1 ?_
  refine aw_lconst (v := lN 0) d_M_isSlip_2 (by decide) ?_
  refine aw_ldc2 (v := lN 2) d_M_isSlip_3 k_M_177 ?_
  refine aw_s0i d_M_isSlip_6 k_M_121 ok_M_in rfl ⟨rfl, rfl⟩ (c_in a.toInt64 (lN 0) (lN 2)) rfl rfl (Nat.le_of_ble_eq_true rfl) ?_
  refine aw_if_eq (tgt := 51) d_M_isSlip_9 (by decide) (fun c9 => ?_) (fun c9 => ?_)
  · refine aw_iconst (v := nI 0) d_M_isSlip_51 (by decide) ?_
    refine aw_ireturn d_M_isSlip_52 rfl (by decide) ?_
    refine ⟨ab_fin ?_, rfl, rfl⟩
    simp only [ab_bl_0, decide_eq_false_iff_not, Classical.not_not, i64_toInt, tl0, tl2, e1, e2] at c9
    first
      | exact Or.inl ⟨by omega, rfl⟩
      | exact Or.inr ⟨by omega, rfl⟩
  · refine aw_iload_n d_M_isSlip_12 rfl ?_
    refine aw_i2l d_M_isSlip_13 ?_
    refine aw_lconst (v := lN 0) d_M_isSlip_14 (by decide) ?_
    refine aw_aload_n d_M_isSlip_15 rfl ?_
    refine aw_get (k := 0) d_M_isSlip_16 cl_Model k_M_118 (by decide) hM rfl ?_
    refine aw_iconst (v := nI 1) d_M_isSlip_19 (by decide) ?_
    refine aw_isub d_M_isSlip_20 ?_
    refine aw_i2l d_M_isSlip_21 ?_
    refine aw_s0i d_M_isSlip_22 k_M_121 ok_M_in rfl ⟨rfl, rfl⟩ (c_in i.toInt64 (lN 0) (((nI n) - (nI 1)).toInt64)) rfl rfl (Nat.le_of_ble_eq_true rfl) ?_
    refine aw_if_eq (tgt := 51) d_M_isSlip_25 (by decide) (fun c25 => ?_) (fun c25 => ?_)
    · refine aw_iconst (v := nI 0) d_M_isSlip_51 (by decide) ?_
      refine aw_ireturn d_M_isSlip_52 rfl (by decide) ?_
      refine ⟨ab_fin ?_, rfl, rfl⟩
      simp only [ab_bl_0, decide_eq_false_iff_not, Classical.not_not, i64_toInt, tl0, tl2, e1, e2] at c9 c25
      first
        | exact Or.inl ⟨by omega, rfl⟩
        | exact Or.inr ⟨by omega, rfl⟩
    · refine aw_iload_n d_M_isSlip_28 rfl ?_
      refine aw_i2l d_M_isSlip_29 ?_
      refine aw_iload_n d_M_isSlip_30 rfl ?_
      refine aw_i2l d_M_isSlip_31 ?_
      refine aw_lconst (v := lN 1) d_M_isSlip_32 (by decide) ?_
      refine aw_ladd d_M_isSlip_33 ?_
      refine aw_aload_n d_M_isSlip_34 rfl ?_
      refine aw_get (k := 0) d_M_isSlip_35 cl_Model k_M_118 (by decide) hM rfl ?_
      refine aw_iconst (v := nI 1) d_M_isSlip_38 (by decide) ?_
      refine aw_isub d_M_isSlip_39 ?_
      refine aw_i2l d_M_isSlip_40 ?_
      refine aw_s0i d_M_isSlip_41 k_M_121 ok_M_in rfl ⟨rfl, rfl⟩ (c_in j.toInt64 (i.toInt64 + (lN 1)) (((nI n) - (nI 1)).toInt64)) rfl rfl (Nat.le_of_ble_eq_true rfl) ?_
      refine aw_if_eq (tgt := 51) d_M_isSlip_44 (by decide) (fun c44 => ?_) (fun c44 => ?_)
      · refine aw_iconst (v := nI 0) d_M_isSlip_51 (by decide) ?_
        refine aw_ireturn d_M_isSlip_52 rfl (by decide) ?_
        refine ⟨ab_fin ?_, rfl, rfl⟩
        simp only [ab_bl_0, decide_eq_false_iff_not, Classical.not_not, i64_toInt, tl0, tl2, e1, e2] at c9 c25 c44
        first
          | exact Or.inl ⟨by omega, rfl⟩
          | exact Or.inr ⟨by omega, rfl⟩
      · refine aw_iconst (v := nI 1) d_M_isSlip_47 (by decide) ?_
        refine aw_goto (tgt := 52) d_M_isSlip_48 (by decide) ?_
        refine aw_ireturn d_M_isSlip_52 rfl (by decide) ?_
        refine ⟨ab_fin ?_, rfl, rfl⟩
        simp only [ab_bl_0, decide_eq_false_iff_not, Classical.not_not, i64_toInt, tl0, tl2, e1, e2] at c9 c25 c44
        first
          | exact Or.inl ⟨by omega, rfl⟩
          | exact Or.inr ⟨by omega, rfl⟩
theorem y_fear {V : VV} {m c : Nat} {h : ab_H} {S : SS} (hM : PM V c h S) (ok : S_ok S) (hc : c < 900) (hV : V_ok V) (a x y : Int32) : CM V Y_M_fear [.int a, .int x, .int y] m c h (fun r S2 => (r, S2) = sp_fear S a x y) := by
  obtain ⟨⟨tab, la, at_, wr, ve, fs, ft, m0, m1, m2, m3, m4, m5, m6⟩, ⟨n0, n1, n2, n3, n4, n5, n6, n7, n8, n9⟩, q1, q2, q3, q4⟩ := id hM
  have hn6 : N_n (S_N S) ≤ 6 := ok.1.1
  have hnT := nI_toInt (show N_n (S_N S) < 2 ^ 31 by omega)
  refine ab_C.of (L := [some (.ref 56), some (.int a), some (.int x), some (.int y)]) rfl rfl (Nat.le_of_ble_eq_true rfl) (fun l => ?_)
  obtain ⟨gm, hm, am⟩ := id n9
  have hs4 : N_fe (S_N S) ≤ 6 := ok.1.2.2.2.2.2.2.2.2.2.2.2.2.2.2.1
  have hsT := nI_toInt (show N_fe (S_N S) < 2 ^ 31 by omega)
  refine aw_aload_n d_M_fear_0 rfl ?_
  refine aw_iload_n d_M_fear_1 rfl ?_
  refine aw_iload_n d_M_fear_2 rfl ?_
  refine aw_iload_n d_M_fear_3 rfl ?_
  refine aw_v0i d_M_fear_4 k_M_299 ok_M_isSlip rfl ⟨rfl, rfl⟩ cl_Model m0 (c_M_isSlip m0 hn6 a x y) rfl rfl (Nat.le_of_ble_eq_true rfl) ?_
  refine aw_if_ne (tgt := 12) d_M_fear_7 (by decide) (fun c7 => ?_) (fun c7 => ?_)
  · refine aw_aload_n d_M_fear_12 rfl ?_
    refine aw_get (k := 34) d_M_fear_13 cl_Model k_M_187 (by decide) m0 rfl ?_
    refine aw_bipush (v := nI 6) d_M_fear_16 (by decide) ?_
    refine aw_icmp_ne (tgt := 24) d_M_fear_18 (by decide) (fun c18 => ?_) (fun c18 => ?_)
    · have hq := of_decide_eq_true (ab_bl_1.mp c7)
      obtain ⟨⟨g1, g2⟩, g3, g4, g5⟩ := id hq
      obtain ⟨b, hb, rfl⟩ : ∃ b : Nat, (b : Int) = a.toInt ∧ a = nI b := ⟨cl a, cl_int g1, cl_of g1⟩
      obtain ⟨i, hi, rfl⟩ : ∃ b : Nat, (b : Int) = x.toInt ∧ x = nI b := ⟨cl x, cl_int g3, cl_of g3⟩
      obtain ⟨j, hj, rfl⟩ : ∃ b : Nat, (b : Int) = y.toInt ∧ y = nI b := ⟨cl y, cl_int (by omega), cl_of (by omega)⟩
      have hs : N_fe (S_N S) < 6 := by rw [fa_eq, hsT] at c18; simp only [ti6] at c18; omega
      refine aw_aload_n d_M_fear_24 rfl ?_
      refine aw_get (k := 35) d_M_fear_25 cl_Model k_M_88 (by decide) m0 rfl ?_
      refine aw_aload_n d_M_fear_28 rfl ?_
      refine aw_get (k := 34) d_M_fear_29 cl_Model k_M_187 (by decide) m0 rfl ?_
      refine aw_bipush (v := nI 36) d_M_fear_32 (by decide) ?_
      refine aw_iload_n d_M_fear_34 rfl ?_
      refine aw_imul d_M_fear_35 ?_
      refine aw_bipush (v := nI 6) d_M_fear_36 (by decide) ?_
      refine aw_iload_n d_M_fear_38 rfl ?_
      refine aw_imul d_M_fear_39 ?_
      refine aw_iadd d_M_fear_40 ?_
      refine aw_iload_n d_M_fear_41 rfl ?_
      refine aw_iadd d_M_fear_42 ?_
      rw [pk_mul, pk_mul, nI_add, nI_add]
      refine aw_iastoreN d_M_fear_43 hm (by omega) (by decide) ?_
      refine aw_aload_n d_M_fear_44 rfl ?_
      refine aw_dup d_M_fear_45 rfl ?_
      refine aw_get (k := 34) d_M_fear_46 cl_Model k_M_187 (by decide) m0 rfl ?_
      refine aw_iconst (v := nI 1) d_M_fear_49 (by decide) ?_
      refine aw_iadd d_M_fear_50 ?_
      rw [nI_add]
      refine aw_put (k := 34) (fs' := [.int (nI (N_n (S_N S))), .ref 57, .ref 58, .ref 59, .ref 60, .ref 61, .ref 62, .ref 63, .int (nI (N_ns (S_N S))), .ref 64, .ref 65, .int (nI (N_ra (S_N S))), .int (nI (N_se (S_N S))), .int (N_me (S_N S)), .int (N_mi (S_N S)), .ref 66, .ref 67, .int tab, .ref 68, .ref 69, .ref 70, .ref 71, .ref 72, .ref 73, .ref 74, .int (nI ve), .int la, .ref 75, .ref 76, .int (nI (S_tl S)), .int at_, .int wr, .ref 77, .ref 78, .int (nI (N_fe (S_N S) + 1)), .ref 79, .ref 80, .ref 81, .ref 82, .ref 83, .ref 84, .int (ab_bl (S_K S).isSome), .ref 85, .ref 86, .ref 87, .ref 88]) d_M_fear_51 cl_Model k_M_187 (by decide) rfl ⟨rfl, rfl⟩ m0 (Nat.le_of_ble_eq_true rfl) rfl ?_
      refine aw_aload_n d_M_fear_54 rfl ?_
      refine aw_get (k := 34) d_M_fear_55 cl_Model k_M_187 (by decide) rfl rfl ?_
      refine aw_iconst (v := nI 1) d_M_fear_58 (by decide) ?_
      refine aw_isub d_M_fear_59 ?_
      rw [show nI (N_fe (S_N S) + 1) - nI 1 = nI (N_fe (S_N S)) from nI_pred _]
      refine aw_ireturn d_M_fear_60 rfl rfl ?_
      refine ⟨_, S_N_ S (N_fe_ (N_ff_ (S_N S) (ud (N_ff (S_N S)) (N_fe (S_N S)) (36 * b + 6 * i + j))) (N_fe (S_N S) + 1)), rfl, ?_, ⟨⟨tab, la, at_, wr, ve, fs, ft, rfl, by omega, by omega, m3, m4, m5, ?_⟩, ⟨n0, n1, n2, n3, n4, n5, n6, n7, n8, rw_.up2 rfl am⟩, q1, q2, q3, q4⟩, rfl, (fun k hk => by rw [ab_set_ne (by omega), ab_set_ne (by omega)])⟩
      · unfold sp_fear
        rw [if_pos hq, if_neg (by omega), cl_nI (show b < 2 ^ 31 by omega), cl_nI (show i < 2 ^ 31 by omega), cl_nI (show j < 2 ^ 31 by omega)]
      · rw [show V.2.2.2.2 (S_N (S_N_ S (N_fe_ (N_ff_ (S_N S) (ud (N_ff (S_N S)) (N_fe (S_N S)) (36 * b + 6 * i + j))) (N_fe (S_N S) + 1)))) = V.2.2.2.2 (S_N S) from hV.2.2.2.2 _ _ _]; exact m6
    · refine aw_bipush (v := (-3)) d_M_fear_21 (by decide) ?_
      refine aw_ireturn d_M_fear_23 rfl rfl ?_
      refine ⟨_, S, rfl, ?_, ⟨⟨tab, la, at_, wr, ve, fs, ft, m0, by omega, by omega, m3, m4, m5, m6⟩, ⟨n0, n1, n2, n3, n4, n5, n6, n7, n8, n9⟩, q1, q2, q3, q4⟩, rfl, fun k _ => rfl⟩
      unfold sp_fear
      rw [if_pos (of_decide_eq_true (ab_bl_1.mp c7)), if_pos (by rw [fa_eq, hsT] at c18; simp only [ti6] at c18; omega)]
  · refine aw_iconst (v := (-1)) d_M_fear_10 (by decide) ?_
    refine aw_ireturn d_M_fear_11 rfl rfl ?_
    refine ⟨_, S, rfl, ?_, ⟨⟨tab, la, at_, wr, ve, fs, ft, m0, by omega, by omega, m3, m4, m5, m6⟩, ⟨n0, n1, n2, n3, n4, n5, n6, n7, n8, n9⟩, q1, q2, q3, q4⟩, rfl, fun k _ => rfl⟩
    unfold sp_fear
    rw [if_neg (of_decide_eq_false (ab_bl_0.mp c7))]
theorem all_n : ∀ n, n ≤ 6 → nI 1 <<< (nI n &&& 31) - nI 1 = nI (2 ^ n - 1) := by decide +kernel
theorem l_forget {X : ab_X} {l : Launch} {Q : Option Value → Nat → ab_H → Prop} {m : Nat} {h : ab_H} {us : Nat × Nat} {n ns ra se : Nat} {me mi tab ve la : Int32} {tl : Nat} {at_ wr : Int32} {fe : Nat} {kp : Bool} (hM : h 56 = oM n ns ra se me mi tab ve la tl at_ wr fe kp) (hn : n ≤ 6)
    (ex : ∀ g : Nat → Int32, (∀ k, k < n → g k = nI (2 ^ n - 1)) → ab_W Y_M_forget X l Q 30 [some (.ref 56), some (.int (nI n))] [] m (ab_set h 63 (.inl (6, g))) us) :
    ∀ k i (g : Nat → Int32), i + k = n → (∀ k, k < i → g k = nI (2 ^ n - 1)) → ab_W Y_M_forget X l Q 2 [some (.ref 56), some (.int (nI i))] [] m (ab_set h 63 (.inl (6, g))) us := by
  intro k
  induction k with
  | zero =>
    intro i g hi h1
    have hi : i = n := by omega
    subst hi
    refine aw_iload_n d_M_forget_2 rfl ?_
    refine aw_aload_n d_M_forget_3 rfl ?_
    refine aw_get (k := 0) d_M_forget_4 cl_Model k_M_118 (by decide) hM rfl ?_
    refine aw_icmp_ge (tgt := 30) d_M_forget_7 (by decide) (fun c7 => ?_) (fun c7 => ?_)
    · exact ex g h1
    · exact absurd (Int32.le_refl _) c7
  | succ k ih =>
    intro i g hi h1
    refine aw_iload_n d_M_forget_2 rfl ?_
    refine aw_aload_n d_M_forget_3 rfl ?_
    refine aw_get (k := 0) d_M_forget_4 cl_Model k_M_118 (by decide) hM rfl ?_
    refine aw_icmp_ge (tgt := 30) d_M_forget_7 (by decide) (fun c7 => ?_) (fun c7 => ?_)
    · exact absurd c7 (nI_ge (by omega) (by omega))
    · refine aw_aload_n d_M_forget_10 rfl ?_
      refine aw_get (k := 7) d_M_forget_11 cl_Model k_M_28 (by decide) hM rfl ?_
      refine aw_iload_n d_M_forget_14 rfl ?_
      refine aw_iconst (v := nI 1) d_M_forget_15 (by decide) ?_
      refine aw_aload_n d_M_forget_16 rfl ?_
      refine aw_get (k := 0) d_M_forget_17 cl_Model k_M_118 (by decide) hM rfl ?_
      refine aw_ishl d_M_forget_20 ?_
      refine aw_iconst (v := nI 1) d_M_forget_21 (by decide) ?_
      refine aw_isub d_M_forget_22 ?_
      rw [all_n n hn]
      refine aw_iastoreN d_M_forget_23 rfl (by omega) (by decide) ?_
      rw [ab_set_set]
      refine aw_iinc (v := nI (i + 1)) (L' := [some (.ref 56), some (.int (nI (i + 1)))]) d_M_forget_24 rfl (nI_1 _) ⟨by decide, rfl⟩ rfl ?_
      refine aw_goto (tgt := 2) d_M_forget_27 (by decide) ?_
      refine ih (i + 1) _ (by omega) (fun k hk => ?_)
      by_cases e : k = i
      · subst e; rw [pk_us]
      · rw [pk_un e]; exact h1 k (by omega)
theorem y_forget {V : VV} {m c : Nat} {h : ab_H} {S : SS} (hM : PM V c h S) (ok : S_ok S) (hc : c < 900) (hV : V_ok V)  : CM V Y_M_forget [] m c h (fun r S2 => (r, S2) = sp_forget S) := by
  obtain ⟨⟨tab, la, at_, wr, ve, fs, ft, m0, m1, m2, m3, m4, m5, m6⟩, ⟨n0, n1, n2, n3, n4, n5, n6, n7, n8, n9⟩, q1, q2, q3, q4⟩ := id hM
  have hn6 : N_n (S_N S) ≤ 6 := ok.1.1
  have hnT := nI_toInt (show N_n (S_N S) < 2 ^ 31 by omega)
  refine ab_C.of (L := [some (.ref 56), none]) rfl rfl (Nat.le_of_ble_eq_true rfl) (fun l => ?_)
  obtain ⟨gm, hm, am⟩ := id n6
  refine aw_iconst (v := nI 0) d_M_forget_0 (by decide) ?_
  refine aw_istore_n (L' := [some (.ref 56), some (.int (nI 0))]) d_M_forget_1 ⟨by decide, rfl⟩ rfl ?_
  have lp := l_forget (X := none) (l := l) (Q := fun r m2 h2 => ∃ (v : Int32) (S2 : SS), r = some (.int v) ∧ (v, S2) = sp_forget S ∧ PM V (c + 1) h2 S2 ∧ m2 = m ∧ ∀ k, (k < 56 ∨ 88 < k) → h2 k = h k) (m := m) (us := (0, 0)) (h := h) m0 hn6 (fun g e1 => ?_) (N_n (S_N S)) 0 gm (by omega) (fun k hk => absurd hk (by omega))
  · rw [ab_set_eq hm] at lp
    exact lp
  · have m0' : ab_set h 63 (.inl (6, g)) 56 = _ := m0
    refine aw_aload_n d_M_forget_30 rfl ?_
    refine aw_get (k := 0) d_M_forget_31 cl_Model k_M_118 (by decide) m0' rfl ?_
    refine aw_ireturn d_M_forget_34 rfl rfl ?_
    refine ⟨_, S_N_ S (N_ma_ (S_N S) (fun _ => 2 ^ N_n (S_N S) - 1)), rfl, rfl, ⟨⟨tab, la, at_, wr, ve, fs, ft, m0, by omega, by omega, m3, m4, m5, ?_⟩, ⟨n0, n1, n2, n3, n4, n5, ⟨g, rfl, e1⟩, n7, n8, n9⟩, q1, q2, q3, q4⟩, rfl, (fun k hk => ab_set_ne (by omega))⟩
    rw [show V.2.2.2.2 (S_N (S_N_ S (N_ma_ (S_N S) (fun _ => 2 ^ N_n (S_N S) - 1)))) = V.2.2.2.2 (S_N S) from (hV.2.2.1 _ _).2.2.2]; exact m6
theorem la_neg {S : SS} (ok : S_ok S) {k : Nat} (hk : k < 4) : (S_la S k < 0 ↔ S_la S k = -1) ∧ (0 ≤ S_la S k ↔ ¬ S_la S k = -1) := by
  rcases (ok.2.2.2.2 k hk).1 with e | e | e | e <;> rw [e] <;> decide
theorem y_drop {V : VV} {m c : Nat} {h : ab_H} {S : SS} (hM : PM V c h S) (ok : S_ok S) (hc : c < 900)  (sh : Int32) : CM V Y_M_drop [.int sh] m c h (fun r S2 => (r, S2) = sp_drop S sh) := by
  obtain ⟨⟨tab, la, at_, wr, ve, fs, ft, m0, m1, m2, m3, m4, m5, m6⟩, ⟨n0, n1, n2, n3, n4, n5, n6, n7, n8, n9⟩, q1, q2, q3, q4⟩ := id hM
  have hn6 : N_n (S_N S) ≤ 6 := ok.1.1
  have hnT := nI_toInt (show N_n (S_N S) < 2 ^ 31 by omega)
  refine ab_C.of (L := [some (.ref 56), some (.int sh)]) rfl rfl (Nat.le_of_ble_eq_true rfl) (fun l => ?_)
  obtain ⟨⟨gl, hl, al⟩, ⟨gz, hz, az⟩, ⟨gi, hi, ai⟩, ⟨gv, hv⟩⟩ := id q2
  refine aw_iload_n d_M_drop_0 rfl ?_
  refine aw_s0i d_M_drop_1 k_M_156 ok_M_isSheet rfl ⟨rfl, rfl⟩ (c_M_isSheet sh) rfl rfl (Nat.le_of_ble_eq_true rfl) ?_
  refine aw_if_ne (tgt := 9) d_M_drop_4 (by decide) (fun c4 => ?_) (fun c4 => ?_)
  · have k4 := of_decide_eq_true (ab_bl_1.mp c4)
    obtain ⟨s, hs, rfl⟩ := irC (n := 3) k4
    refine aw_aload_n d_M_drop_9 rfl ?_
    refine aw_get (k := 42) d_M_drop_10 cl_Model k_M_106 (by decide) m0 rfl ?_
    refine aw_iload_n d_M_drop_13 rfl ?_
    refine aw_ialoadN d_M_drop_14 hl (by omega) (by decide) ?_
    refine aw_if_ge (tgt := 21) d_M_drop_15 (by decide) (fun c15 => ?_) (fun c15 => ?_)
    · refine aw_aload_n d_M_drop_21 rfl ?_
      refine aw_get (k := 42) d_M_drop_22 cl_Model k_M_106 (by decide) m0 rfl ?_
      refine aw_iload_n d_M_drop_25 rfl ?_
      refine aw_iconst (v := (-1)) d_M_drop_26 (by decide) ?_
      refine aw_iastoreN d_M_drop_27 hl (by omega) (by decide) ?_
      refine aw_aload_n d_M_drop_28 rfl ?_
      refine aw_get (k := 43) d_M_drop_29 cl_Model k_M_109 (by decide) m0 rfl ?_
      refine aw_iload_n d_M_drop_32 rfl ?_
      refine aw_ialoadN d_M_drop_33 hz (by omega) (by decide) ?_
      refine aw_ireturn d_M_drop_34 rfl rfl ?_
      refine ⟨_, S_la_ S (ud (S_la S) s (-1)), rfl, ?_, ⟨⟨tab, la, at_, wr, ve, fs, ft, m0, by omega, by omega, m3, m4, m5, m6⟩, ⟨n0, n1, n2, n3, n4, n5, n6, n7, n8, n9⟩, q1, ⟨ex_.up rfl al, ⟨gz, hz, az⟩, ⟨gi, hi, ai⟩, ⟨gv, hv⟩⟩, q3, q4⟩, rfl, (fun k hk => ab_set_ne (by omega))⟩
      unfold sp_drop
      rw [if_pos k4, cl_nI (show s < 2 ^ 31 by omega), if_neg (by rw [al s (by omega)] at c15; exact (la_neg ok (by omega)).2.mp c15), az s (by omega)]
    · refine aw_bipush (v := (-11)) d_M_drop_18 (by decide) ?_
      refine aw_ireturn d_M_drop_20 rfl rfl ?_
      refine ⟨_, S, rfl, ?_, ⟨⟨tab, la, at_, wr, ve, fs, ft, m0, by omega, by omega, m3, m4, m5, m6⟩, ⟨n0, n1, n2, n3, n4, n5, n6, n7, n8, n9⟩, q1, q2, q3, q4⟩, rfl, fun k _ => rfl⟩
      unfold sp_drop
      rw [if_pos k4, cl_nI (show s < 2 ^ 31 by omega), if_pos (by rw [al s (by omega)] at c15; exact Classical.not_not.mp (fun q => c15 ((la_neg ok (by omega)).2.mpr q)))]
  · refine aw_iconst (v := (-1)) d_M_drop_7 (by decide) ?_
    refine aw_ireturn d_M_drop_8 rfl rfl ?_
    refine ⟨_, S, rfl, ?_, ⟨⟨tab, la, at_, wr, ve, fs, ft, m0, by omega, by omega, m3, m4, m5, m6⟩, ⟨n0, n1, n2, n3, n4, n5, n6, n7, n8, n9⟩, q1, q2, q3, q4⟩, rfl, fun k _ => rfl⟩
    unfold sp_drop
    rw [if_neg (of_decide_eq_false (ab_bl_0.mp c4))]
