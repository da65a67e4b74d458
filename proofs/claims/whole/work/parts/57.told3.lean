theorem ri_d {a b : Nat} (ha : a < 100) (hb : b < 10) : nI (10 * a + b) / nI 10 = nI a := by
  rw [pk_div (by omega) (by decide) (by decide)]
  congr 1
  omega
theorem ri_r {a b : Nat} (ha : a < 100) (hb : b < 10) : nI (10 * a + b) - nI (10 * a + b) / nI 10 * nI 10 = nI b := by
  rw [pk_rem (by omega) (by decide) (by decide)]
  congr 1
  omega
theorem rg_tz {t : Nat → Nat} (ht : Pm t) {a : Nat} (ha : a < 6) : tz (rg t a) < 6 := by
  obtain ⟨-, -, h3, h4⟩ := rg_t ht ha
  rcases tz_in _ h3 with h | h
  · rw [h] at h4
    exact absurd h4 (b_zero a)
  · exact h.1
theorem y_told {V : VV} {m c : Nat} {h : ab_H} {S : SS} (hM : PM V c h S) (ok : S_ok S) (hc : c < 900)  (a what : Int32) : CM V Y_M_told [.int a, .int what] m c h (fun r S2 => (r, S2) = (sp_told S a what, S)) := by
  obtain ⟨⟨tab, la, at_, wr, ve, fs, ft, m0, m1, m2, m3, m4, m5, m6⟩, ⟨n0, n1, n2, n3, n4, n5, n6, n7, n8, n9⟩, q1, q2, q3, q4⟩ := id hM
  have hn6 : N_n (S_N S) ≤ 6 := ok.1.1
  have hnT := nI_toInt (show N_n (S_N S) < 2 ^ 31 by omega)
  have hpm := ok.1.pm
  have hfx := ok.1.2.2.1
  have hw6 := ok.1.w6
  refine ab_C.of (L := [some (.ref 56), some (.int a), some (.int what)]) rfl rfl (Nat.le_of_ble_eq_true rfl) (fun l => ?_)
  obtain ⟨gx, hx, ax⟩ := id n0
  obtain ⟨gy, hy, ay⟩ := id n1
  obtain ⟨gm, hm, am⟩ := id n2
  obtain ⟨g, hg, ag⟩ := id n3
  obtain ⟨gw, hw, aw⟩ := id n5
  refine aw_aload_n d_M_told_0 rfl ?_
  refine aw_iload_n d_M_told_1 rfl ?_
  refine aw_v0i d_M_told_2 k_M_140 ok_M_isPerson rfl ⟨rfl, rfl⟩ cl_Model m0 (c_M_isPerson m0 hn6 a) rfl rfl (Nat.le_of_ble_eq_true rfl) ?_
  refine aw_if_eq (tgt := 20) d_M_told_5 (by decide) (fun c5 => ?_) (fun c5 => ?_)
  · refine aw_iconst (v := (-1)) d_M_told_20 (by decide) ?_
    refine aw_ireturn d_M_told_21 rfl rfl ?_
    refine ⟨_, S, rfl, ?_, ⟨⟨tab, la, at_, wr, ve, fs, ft, m0, by omega, by omega, m3, m4, m5, m6⟩, ⟨n0, n1, n2, n3, n4, n5, n6, n7, n8, n9⟩, q1, q2, q3, q4⟩, rfl, fun k _ => rfl⟩
    unfold sp_told
    first
      | (rw [if_neg]
         exact of_decide_eq_false (ab_bl_0.mp c5))
      | (have c := of_decide_eq_false (ab_bl_0.mp c17)
         rw [i64_toInt, tl0, tl7] at c
         have c3 : what.toInt < 0 ∨ ((7 : Nat) : Int) < what.toInt := by omega
         rw [if_neg (sw_out c3 (by decide) 0 (by decide))]
         rw [if_neg (sw_out c3 (by decide) 1 (by decide))]
         rw [if_neg (sw_out c3 (by decide) 2 (by decide))]
         rw [if_neg (sw_out c3 (by decide) 3 (by decide))]
         rw [if_neg (sw_out c3 (by decide) 4 (by decide))]
         rw [if_neg (sw_out c3 (by decide) 5 (by decide))]
         rw [if_neg (sw_out c3 (by decide) 6 (by decide))]
         rw [if_neg (sw_out c3 (by decide) 7 (by decide))]
         rw [ite_self])
  · refine aw_iload_n d_M_told_8 rfl ?_
    refine aw_i2l d_M_told_9 ?_
    refine aw_lconst (v := lN 0) d_M_told_10 (by decide) ?_
    refine aw_ldc2 (v := lN 7) d_M_told_11 k_M_144 ?_
    refine aw_s0i d_M_told_14 k_M_121 ok_M_in rfl ⟨rfl, rfl⟩ (c_in what.toInt64 (lN 0) (lN 7)) rfl rfl (Nat.le_of_ble_eq_true rfl) ?_
    refine aw_if_ne (tgt := 22) d_M_told_17 (by decide) (fun c17 => ?_) (fun c17 => ?_)
    · obtain ⟨j, hj, rfl⟩ := irN (of_decide_eq_true (ab_bl_1.mp c5))
      have k17 := of_decide_eq_true (ab_bl_1.mp c17)
      rw [i64_toInt, tl0, tl7] at k17
      have rz := rg_tz hpm (show j < 6 by omega)
      have rp := pop_le (rg (N_t (S_N S)) j)
      have hjT := nI_toInt (show j < 2 ^ 31 by omega)
      refine aw_iload_n d_M_told_22 rfl ?_
      rcases ab_sw what 6 (by decide) with c23 | ⟨j23, hj23, ej23⟩
      · refine aw_tableOut (tgt := 118) d_M_told_23 c23 (by decide) ?_
        refine aw_aload_n d_M_told_118 rfl ?_
        refine aw_get (k := 4) d_M_told_119 cl_Model k_M_19 (by decide) m0 rfl ?_
        refine aw_iconst (v := nI 0) d_M_told_122 (by decide) ?_
        refine aw_iload_n d_M_told_123 rfl ?_
        refine aw_s0i d_M_told_124 k_M_150 ok_M_ringOf rfl ⟨rfl, rfl⟩ (c_ringOf (fr := 0) hg (by decide) hpm hn6 hfx (by omega) (fun k hk => by rw [Nat.zero_add]; exact ag k hk) (show j < N_n (S_N S) by omega)) rfl rfl (Nat.le_of_ble_eq_true rfl) ?_
        refine aw_bipush (v := nI 10) d_M_told_127 (by decide) ?_
        refine aw_irem d_M_told_129 (by decide) ?_
        rw [ri_r (by omega) (by omega)]
        refine aw_ireturn d_M_told_130 rfl rfl ?_
        refine ⟨_, S, rfl, ?_, ⟨⟨tab, la, at_, wr, ve, fs, ft, m0, by omega, by omega, m3, m4, m5, m6⟩, ⟨n0, n1, n2, n3, n4, n5, n6, n7, n8, n9⟩, q1, q2, q3, q4⟩, rfl, fun k _ => rfl⟩
        have e7 : what = nI 7 := by
          rw [fa_eq, nI_toInt (by decide)]
          omega
        subst e7
        unfold sp_told
        rw [if_pos ⟨by omega, by omega⟩, cl_nI (show j < 2 ^ 31 by omega)]
        rw [if_neg (by decide)]
        rw [if_neg (by decide)]
        rw [if_neg (by decide)]
        rw [if_neg (by decide)]
        rw [if_neg (by decide)]
        rw [if_neg (by decide)]
        rw [if_neg (by decide)]
        rw [if_pos rfl]
        
      · match j23, hj23, ej23 with
        | 0, _, ej23 =>
          subst ej23
          refine aw_tableIn (tgt := 64) (off := 41) d_M_told_23 ⟨by decide, by decide⟩ (by decide) (by decide) ?_
          refine aw_aload_n d_M_told_64 rfl ?_
          refine aw_get (k := 1) d_M_told_65 cl_Model k_M_7 (by decide) m0 rfl ?_
          refine aw_iload_n d_M_told_68 rfl ?_
          refine aw_ialoadN d_M_told_69 hx (by omega) (by decide) ?_
          refine aw_ireturn d_M_told_70 rfl rfl ?_
          refine ⟨_, S, rfl, ?_, ⟨⟨tab, la, at_, wr, ve, fs, ft, m0, by omega, by omega, m3, m4, m5, m6⟩, ⟨n0, n1, n2, n3, n4, n5, n6, n7, n8, n9⟩, q1, q2, q3, q4⟩, rfl, fun k _ => rfl⟩
          unfold sp_told
          rw [if_pos ⟨by omega, by omega⟩, cl_nI (show j < 2 ^ 31 by omega)]
          rw [if_pos rfl]
          rw [ax j (by omega)]
        | 1, _, ej23 =>
          subst ej23
          refine aw_tableIn (tgt := 71) (off := 48) d_M_told_23 ⟨by decide, by decide⟩ (by decide) (by decide) ?_
          refine aw_aload_n d_M_told_71 rfl ?_
          refine aw_get (k := 2) d_M_told_72 cl_Model k_M_13 (by decide) m0 rfl ?_
          refine aw_iload_n d_M_told_75 rfl ?_
          refine aw_ialoadN d_M_told_76 hy (by omega) (by decide) ?_
          refine aw_ireturn d_M_told_77 rfl rfl ?_
          refine ⟨_, S, rfl, ?_, ⟨⟨tab, la, at_, wr, ve, fs, ft, m0, by omega, by omega, m3, m4, m5, m6⟩, ⟨n0, n1, n2, n3, n4, n5, n6, n7, n8, n9⟩, q1, q2, q3, q4⟩, rfl, fun k _ => rfl⟩
          unfold sp_told
          rw [if_pos ⟨by omega, by omega⟩, cl_nI (show j < 2 ^ 31 by omega)]
          rw [if_neg (by decide)]
          rw [if_pos rfl]
          rw [ay j (by omega)]
        | 2, _, ej23 =>
          subst ej23
          refine aw_tableIn (tgt := 78) (off := 55) d_M_told_23 ⟨by decide, by decide⟩ (by decide) (by decide) ?_
          refine aw_aload_n d_M_told_78 rfl ?_
          refine aw_get (k := 3) d_M_told_79 cl_Model k_M_16 (by decide) m0 rfl ?_
          refine aw_iload_n d_M_told_82 rfl ?_
          refine aw_ialoadN d_M_told_83 hm (by omega) (by decide) ?_
          refine aw_ireturn d_M_told_84 rfl rfl ?_
          refine ⟨_, S, rfl, ?_, ⟨⟨tab, la, at_, wr, ve, fs, ft, m0, by omega, by omega, m3, m4, m5, m6⟩, ⟨n0, n1, n2, n3, n4, n5, n6, n7, n8, n9⟩, q1, q2, q3, q4⟩, rfl, fun k _ => rfl⟩
          unfold sp_told
          rw [if_pos ⟨by omega, by omega⟩, cl_nI (show j < 2 ^ 31 by omega)]
          rw [if_neg (by decide)]
          rw [if_neg (by decide)]
          rw [if_pos rfl]
          rw [am j (by omega)]
        | 3, _, ej23 =>
          subst ej23
          refine aw_tableIn (tgt := 85) (off := 62) d_M_told_23 ⟨by decide, by decide⟩ (by decide) (by decide) ?_
          refine aw_aload_n d_M_told_85 rfl ?_
          refine aw_get (k := 4) d_M_told_86 cl_Model k_M_19 (by decide) m0 rfl ?_
          refine aw_iload_n d_M_told_89 rfl ?_
          refine aw_ialoadN d_M_told_90 hg (by omega) (by decide) ?_
          refine aw_ireturn d_M_told_91 rfl rfl ?_
          refine ⟨_, S, rfl, ?_, ⟨⟨tab, la, at_, wr, ve, fs, ft, m0, by omega, by omega, m3, m4, m5, m6⟩, ⟨n0, n1, n2, n3, n4, n5, n6, n7, n8, n9⟩, q1, q2, q3, q4⟩, rfl, fun k _ => rfl⟩
          unfold sp_told
          rw [if_pos ⟨by omega, by omega⟩, cl_nI (show j < 2 ^ 31 by omega)]
          rw [if_neg (by decide)]
          rw [if_neg (by decide)]
          rw [if_neg (by decide)]
          rw [if_pos rfl]
          rw [ag j (by omega)]
        | 4, _, ej23 =>
          subst ej23
          refine aw_tableIn (tgt := 92) (off := 69) d_M_told_23 ⟨by decide, by decide⟩ (by decide) (by decide) ?_
          refine aw_aload_n d_M_told_92 rfl ?_
          refine aw_iload_n d_M_told_93 rfl ?_
          refine aw_v0i d_M_told_94 k_M_146 ok_M_holder rfl ⟨rfl, rfl⟩ cl_Model m0 (c_holder m0 hn6 hpm hfx hg ag hj) rfl rfl (Nat.le_of_ble_eq_true rfl) ?_
          refine aw_ireturn d_M_told_97 rfl rfl ?_
          refine ⟨_, S, rfl, ?_, ⟨⟨tab, la, at_, wr, ve, fs, ft, m0, by omega, by omega, m3, m4, m5, m6⟩, ⟨n0, n1, n2, n3, n4, n5, n6, n7, n8, n9⟩, q1, q2, q3, q4⟩, rfl, fun k _ => rfl⟩
          unfold sp_told
          rw [if_pos ⟨by omega, by omega⟩, cl_nI (show j < 2 ^ 31 by omega)]
          rw [if_neg (by decide)]
          rw [if_neg (by decide)]
          rw [if_neg (by decide)]
          rw [if_neg (by decide)]
          rw [if_pos rfl]
          
        | 5, _, ej23 =>
          subst ej23
          refine aw_tableIn (tgt := 98) (off := 75) d_M_told_23 ⟨by decide, by decide⟩ (by decide) (by decide) ?_
          refine aw_aload_n d_M_told_98 rfl ?_
          refine aw_get (k := 6) d_M_told_99 cl_Model k_M_25 (by decide) m0 rfl ?_
          refine aw_iload_n d_M_told_102 rfl ?_
          refine aw_ialoadN d_M_told_103 hw (by omega) (by decide) ?_
          refine aw_ireturn d_M_told_104 rfl rfl ?_
          refine ⟨_, S, rfl, ?_, ⟨⟨tab, la, at_, wr, ve, fs, ft, m0, by omega, by omega, m3, m4, m5, m6⟩, ⟨n0, n1, n2, n3, n4, n5, n6, n7, n8, n9⟩, q1, q2, q3, q4⟩, rfl, fun k _ => rfl⟩
          unfold sp_told
          rw [if_pos ⟨by omega, by omega⟩, cl_nI (show j < 2 ^ 31 by omega)]
          rw [if_neg (by decide)]
          rw [if_neg (by decide)]
          rw [if_neg (by decide)]
          rw [if_neg (by decide)]
          rw [if_neg (by decide)]
          rw [if_pos rfl]
          rw [aw j (by omega)]
        | 6, _, ej23 =>
          subst ej23
          refine aw_tableIn (tgt := 105) (off := 82) d_M_told_23 ⟨by decide, by decide⟩ (by decide) (by decide) ?_
          refine aw_aload_n d_M_told_105 rfl ?_
          refine aw_get (k := 4) d_M_told_106 cl_Model k_M_19 (by decide) m0 rfl ?_
          refine aw_iconst (v := nI 0) d_M_told_109 (by decide) ?_
          refine aw_iload_n d_M_told_110 rfl ?_
          refine aw_s0i d_M_told_111 k_M_150 ok_M_ringOf rfl ⟨rfl, rfl⟩ (c_ringOf (fr := 0) hg (by decide) hpm hn6 hfx (by omega) (fun k hk => by rw [Nat.zero_add]; exact ag k hk) (show j < N_n (S_N S) by omega)) rfl rfl (Nat.le_of_ble_eq_true rfl) ?_
          refine aw_bipush (v := nI 10) d_M_told_114 (by decide) ?_
          refine aw_idiv d_M_told_116 (by decide) ?_
          rw [ri_d (by omega) (by omega)]
          refine aw_ireturn d_M_told_117 rfl rfl ?_
          refine ⟨_, S, rfl, ?_, ⟨⟨tab, la, at_, wr, ve, fs, ft, m0, by omega, by omega, m3, m4, m5, m6⟩, ⟨n0, n1, n2, n3, n4, n5, n6, n7, n8, n9⟩, q1, q2, q3, q4⟩, rfl, fun k _ => rfl⟩
          unfold sp_told
          rw [if_pos ⟨by omega, by omega⟩, cl_nI (show j < 2 ^ 31 by omega)]
          rw [if_neg (by decide)]
          rw [if_neg (by decide)]
          rw [if_neg (by decide)]
          rw [if_neg (by decide)]
          rw [if_neg (by decide)]
          rw [if_neg (by decide)]
          rw [if_pos rfl]
          
        | k + 7, hj23, _ => exact absurd hj23 (by omega)
    · refine aw_iconst (v := (-1)) d_M_told_20 (by decide) ?_
      refine aw_ireturn d_M_told_21 rfl rfl ?_
      refine ⟨_, S, rfl, ?_, ⟨⟨tab, la, at_, wr, ve, fs, ft, m0, by omega, by omega, m3, m4, m5, m6⟩, ⟨n0, n1, n2, n3, n4, n5, n6, n7, n8, n9⟩, q1, q2, q3, q4⟩, rfl, fun k _ => rfl⟩
      unfold sp_told
      first
        | (rw [if_neg]
           exact of_decide_eq_false (ab_bl_0.mp c5))
        | (have c := of_decide_eq_false (ab_bl_0.mp c17)
           rw [i64_toInt, tl0, tl7] at c
           have c3 : what.toInt < 0 ∨ ((7 : Nat) : Int) < what.toInt := by omega
           rw [if_neg (sw_out c3 (by decide) 0 (by decide))]
           rw [if_neg (sw_out c3 (by decide) 1 (by decide))]
           rw [if_neg (sw_out c3 (by decide) 2 (by decide))]
           rw [if_neg (sw_out c3 (by decide) 3 (by decide))]
           rw [if_neg (sw_out c3 (by decide) 4 (by decide))]
           rw [if_neg (sw_out c3 (by decide) 5 (by decide))]
           rw [if_neg (sw_out c3 (by decide) 6 (by decide))]
           rw [if_neg (sw_out c3 (by decide) 7 (by decide))]
           rw [ite_self])
theorem y_count {V : VV} {m c : Nat} {h : ab_H} {S : SS} (hM : PM V c h S) (ok : S_ok S) (hc : c < 900)  (what : Int32) : CM V Y_M_count [.int what] m c h (fun r S2 => (r, S2) = (sp_count S what, S)) := by
  obtain ⟨⟨tab, la, at_, wr, ve, fs, ft, m0, m1, m2, m3, m4, m5, m6⟩, ⟨n0, n1, n2, n3, n4, n5, n6, n7, n8, n9⟩, q1, q2, q3, q4⟩ := id hM
  have hn6 : N_n (S_N S) ≤ 6 := ok.1.1
  have hnT := nI_toInt (show N_n (S_N S) < 2 ^ 31 by omega)
  have hpm := ok.1.pm
  have hfx := ok.1.2.2.1
  have hw6 := ok.1.w6
  refine ab_C.of (L := [some (.ref 56), some (.int what), none, none, none, none]) rfl rfl (Nat.le_of_ble_eq_true rfl) (fun l => ?_)
  obtain ⟨gx, hx, ax⟩ := id n0
  obtain ⟨gy, hy, ay⟩ := id n1
  obtain ⟨gm, hm, am⟩ := id n2
  obtain ⟨g, hg, ag⟩ := id n3
  obtain ⟨gw, hw, aw⟩ := id n5
  have loop : ∀ k j, j + k = N_n (S_N S) → ab_W Y_M_count none l (fun r m2 h2 => ∃ (v : Int32) (S2 : SS), r = some (.int v) ∧ (v, S2) = (sp_count S what, S) ∧ PM V (c + 1) h2 S2 ∧ m2 = m ∧ ∀ k, (k < 56 ∨ 88 < k) → h2 k = h k) 7 [some (.ref 56), some (.int what), some (.int (nI (rgs (N_t (S_N S)) (j)))), some (.int (nI (rgm (N_t (S_N S)) (j)))), some (.int (nI (j))), none] [] m (h) (0, 0) := by
    intro k
    induction k with
    | zero =>
      intro j hj 
      have hjn : N_n (S_N S) = j := by omega
      subst hjn
      refine aw_iload d_M_count_7 rfl ?_
      refine aw_aload_n d_M_count_9 rfl ?_
      refine aw_get (k := 0) d_M_count_10 cl_Model k_M_118 (by decide) m0 rfl ?_
      refine aw_icmp_ge (tgt := 80) d_M_count_13 (by decide) (fun c13 => ?_) (fun c13 => ?_)
      · refine aw_iload_n d_M_count_80 rfl ?_
        rcases ab_sw what 7 (by decide) with c81 | ⟨j81, hj81, ej81⟩
        · refine aw_tableOut (tgt := 162) d_M_count_81 c81 (by decide) ?_
          refine aw_iconst (v := (-1)) d_M_count_162 (by decide) ?_
          refine aw_ireturn d_M_count_163 rfl rfl ?_
          refine ⟨_, S, rfl, ?_, ⟨⟨tab, la, at_, wr, ve, fs, ft, m0, by omega, by omega, m3, m4, m5, m6⟩, ⟨n0, n1, n2, n3, n4, n5, n6, n7, n8, n9⟩, q1, q2, q3, q4⟩, rfl, fun k _ => rfl⟩
          unfold sp_count
          rw [if_neg (sw_out c81 (by decide) 0 (by decide))]
          rw [if_neg (sw_out c81 (by decide) 1 (by decide))]
          rw [if_neg (sw_out c81 (by decide) 2 (by decide))]
          rw [if_neg (sw_out c81 (by decide) 3 (by decide))]
          rw [if_neg (sw_out c81 (by decide) 4 (by decide))]
          rw [if_neg (sw_out c81 (by decide) 5 (by decide))]
          rw [if_neg (sw_out c81 (by decide) 6 (by decide))]
          rw [if_neg (sw_out c81 (by decide) 7 (by decide))]
          
        · match j81, hj81, ej81 with
          | 0, _, ej81 =>
            subst ej81
            refine aw_tableIn (tgt := 128) (off := 47) d_M_count_81 ⟨by decide, by decide⟩ (by decide) (by decide) ?_
            refine aw_aload_n d_M_count_128 rfl ?_
            refine aw_get (k := 0) d_M_count_129 cl_Model k_M_118 (by decide) m0 rfl ?_
            refine aw_ireturn d_M_count_132 rfl rfl ?_
            refine ⟨_, S, rfl, ?_, ⟨⟨tab, la, at_, wr, ve, fs, ft, m0, by omega, by omega, m3, m4, m5, m6⟩, ⟨n0, n1, n2, n3, n4, n5, n6, n7, n8, n9⟩, q1, q2, q3, q4⟩, rfl, fun k _ => rfl⟩
            unfold sp_count
            rw [if_pos rfl]
            
          | 1, _, ej81 =>
            subst ej81
            refine aw_tableIn (tgt := 133) (off := 52) d_M_count_81 ⟨by decide, by decide⟩ (by decide) (by decide) ?_
            refine aw_aload_n d_M_count_133 rfl ?_
            refine aw_v0i d_M_count_134 k_M_170 ok_M_strangers rfl ⟨rfl, rfl⟩ cl_Model m0 (c_strangers m0 hn6 hpm hfx hg ag) rfl rfl (Nat.le_of_ble_eq_true rfl) ?_
            refine aw_ireturn d_M_count_137 rfl rfl ?_
            refine ⟨_, S, rfl, ?_, ⟨⟨tab, la, at_, wr, ve, fs, ft, m0, by omega, by omega, m3, m4, m5, m6⟩, ⟨n0, n1, n2, n3, n4, n5, n6, n7, n8, n9⟩, q1, q2, q3, q4⟩, rfl, fun k _ => rfl⟩
            unfold sp_count
            rw [if_neg (by decide)]
            rw [if_pos rfl]
            
          | 2, _, ej81 =>
            subst ej81
            refine aw_tableIn (tgt := 138) (off := 57) d_M_count_81 ⟨by decide, by decide⟩ (by decide) (by decide) ?_
            refine aw_iload_n d_M_count_138 rfl ?_
            refine aw_ireturn d_M_count_139 rfl rfl ?_
            refine ⟨_, S, rfl, ?_, ⟨⟨tab, la, at_, wr, ve, fs, ft, m0, by omega, by omega, m3, m4, m5, m6⟩, ⟨n0, n1, n2, n3, n4, n5, n6, n7, n8, n9⟩, q1, q2, q3, q4⟩, rfl, fun k _ => rfl⟩
            unfold sp_count
            rw [if_neg (by decide)]
            rw [if_neg (by decide)]
            rw [if_pos rfl]
            
          | 3, _, ej81 =>
            subst ej81
            refine aw_tableIn (tgt := 140) (off := 59) d_M_count_81 ⟨by decide, by decide⟩ (by decide) (by decide) ?_
            refine aw_iload_n d_M_count_140 rfl ?_
            refine aw_ireturn d_M_count_141 rfl rfl ?_
            refine ⟨_, S, rfl, ?_, ⟨⟨tab, la, at_, wr, ve, fs, ft, m0, by omega, by omega, m3, m4, m5, m6⟩, ⟨n0, n1, n2, n3, n4, n5, n6, n7, n8, n9⟩, q1, q2, q3, q4⟩, rfl, fun k _ => rfl⟩
            unfold sp_count
            rw [if_neg (by decide)]
            rw [if_neg (by decide)]
            rw [if_neg (by decide)]
            rw [if_pos rfl]
            
          | 4, _, ej81 =>
            subst ej81
            refine aw_tableIn (tgt := 142) (off := 61) d_M_count_81 ⟨by decide, by decide⟩ (by decide) (by decide) ?_
            refine aw_aload_n d_M_count_142 rfl ?_
            refine aw_get (k := 8) d_M_count_143 cl_Model k_M_174 (by decide) m0 rfl ?_
            refine aw_ireturn d_M_count_146 rfl rfl ?_
            refine ⟨_, S, rfl, ?_, ⟨⟨tab, la, at_, wr, ve, fs, ft, m0, by omega, by omega, m3, m4, m5, m6⟩, ⟨n0, n1, n2, n3, n4, n5, n6, n7, n8, n9⟩, q1, q2, q3, q4⟩, rfl, fun k _ => rfl⟩
            unfold sp_count
            rw [if_neg (by decide)]
            rw [if_neg (by decide)]
            rw [if_neg (by decide)]
            rw [if_neg (by decide)]
            rw [if_pos rfl]
            
          | 5, _, ej81 =>
            subst ej81
            refine aw_tableIn (tgt := 147) (off := 66) d_M_count_81 ⟨by decide, by decide⟩ (by decide) (by decide) ?_
            refine aw_aload_n d_M_count_147 rfl ?_
            refine aw_get (k := 13) d_M_count_148 cl_Model k_M_181 (by decide) m0 rfl ?_
            refine aw_ireturn d_M_count_151 rfl rfl ?_
            refine ⟨_, S, rfl, ?_, ⟨⟨tab, la, at_, wr, ve, fs, ft, m0, by omega, by omega, m3, m4, m5, m6⟩, ⟨n0, n1, n2, n3, n4, n5, n6, n7, n8, n9⟩, q1, q2, q3, q4⟩, rfl, fun k _ => rfl⟩
            unfold sp_count
            rw [if_neg (by decide)]
            rw [if_neg (by decide)]
            rw [if_neg (by decide)]
            rw [if_neg (by decide)]
            rw [if_neg (by decide)]
            rw [if_pos rfl]
            
          | 6, _, ej81 =>
            subst ej81
            refine aw_tableIn (tgt := 152) (off := 71) d_M_count_81 ⟨by decide, by decide⟩ (by decide) (by decide) ?_
            refine aw_aload_n d_M_count_152 rfl ?_
            refine aw_get (k := 14) d_M_count_153 cl_Model k_M_184 (by decide) m0 rfl ?_
            refine aw_ireturn d_M_count_156 rfl rfl ?_
            refine ⟨_, S, rfl, ?_, ⟨⟨tab, la, at_, wr, ve, fs, ft, m0, by omega, by omega, m3, m4, m5, m6⟩, ⟨n0, n1, n2, n3, n4, n5, n6, n7, n8, n9⟩, q1, q2, q3, q4⟩, rfl, fun k _ => rfl⟩
            unfold sp_count
            rw [if_neg (by decide)]
            rw [if_neg (by decide)]
            rw [if_neg (by decide)]
            rw [if_neg (by decide)]
            rw [if_neg (by decide)]
            rw [if_neg (by decide)]
            rw [if_pos rfl]
            
          | 7, _, ej81 =>
            subst ej81
            refine aw_tableIn (tgt := 157) (off := 76) d_M_count_81 ⟨by decide, by decide⟩ (by decide) (by decide) ?_
            refine aw_aload_n d_M_count_157 rfl ?_
            refine aw_get (k := 34) d_M_count_158 cl_Model k_M_187 (by decide) m0 rfl ?_
            refine aw_ireturn d_M_count_161 rfl rfl ?_
            refine ⟨_, S, rfl, ?_, ⟨⟨tab, la, at_, wr, ve, fs, ft, m0, by omega, by omega, m3, m4, m5, m6⟩, ⟨n0, n1, n2, n3, n4, n5, n6, n7, n8, n9⟩, q1, q2, q3, q4⟩, rfl, fun k _ => rfl⟩
            unfold sp_count
            rw [if_neg (by decide)]
            rw [if_neg (by decide)]
            rw [if_neg (by decide)]
            rw [if_neg (by decide)]
            rw [if_neg (by decide)]
            rw [if_neg (by decide)]
            rw [if_neg (by decide)]
            rw [if_pos rfl]
            
          | k + 8, hj81, _ => exact absurd hj81 (by omega)
      · exact absurd (Int32.le_refl _) c13
    | succ k ih =>
      intro j hj 
      have rz := rg_tz hpm (show j < 6 by omega)
      have rp := pop_le (rg (N_t (S_N S)) j)
      have rm := rgm_le (N_t (S_N S)) j
      refine aw_iload d_M_count_7 rfl ?_
      refine aw_aload_n d_M_count_9 rfl ?_
      refine aw_get (k := 0) d_M_count_10 cl_Model k_M_118 (by decide) m0 rfl ?_
      refine aw_icmp_ge (tgt := 80) d_M_count_13 (by decide) (fun c13 => ?_) (fun c13 => ?_)
      · exact absurd c13 (nI_ge (by omega) (by omega))
      · refine aw_aload_n d_M_count_16 rfl ?_
        refine aw_get (k := 4) d_M_count_17 cl_Model k_M_19 (by decide) m0 rfl ?_
        refine aw_iconst (v := nI 0) d_M_count_20 (by decide) ?_
        refine aw_iload d_M_count_21 rfl ?_
        refine aw_s0i d_M_count_23 k_M_150 ok_M_ringOf rfl ⟨rfl, rfl⟩ (c_ringOf (fr := 0) hg (by decide) hpm hn6 hfx (by omega) (fun k hk => by rw [Nat.zero_add]; exact ag k hk) (show j < N_n (S_N S) by omega)) rfl rfl (Nat.le_of_ble_eq_true rfl) ?_
        refine aw_istore (L' := [some (.ref 56), some (.int what), some (.int (nI (rgs (N_t (S_N S)) (j)))), some (.int (nI (rgm (N_t (S_N S)) (j)))), some (.int (nI (j))), some (.int (nI (10 * tz (rg (N_t (S_N S)) j) + pop (rg (N_t (S_N S)) j))))]) d_M_count_26 ⟨by decide, rfl⟩ rfl ?_
        refine aw_iload_n d_M_count_28 rfl ?_
        refine aw_iload d_M_count_29 rfl ?_
        refine aw_bipush (v := nI 10) d_M_count_31 (by decide) ?_
        refine aw_idiv d_M_count_33 (by decide) ?_
        rw [ri_d (by omega) (by omega)]
        refine aw_iload d_M_count_34 rfl ?_
        refine aw_icmp_ne (tgt := 52) d_M_count_36 (by decide) (fun c36 => ?_) (fun c36 => ?_)
        · refine aw_iconst (v := nI 0) d_M_count_52 (by decide) ?_
          refine aw_iadd d_M_count_53 ?_
          refine aw_topi (fun v54 ev54 => ?_)
          refine aw_istore_n (L' := [some (.ref 56), some (.int what), some (.int v54), some (.int (nI (rgm (N_t (S_N S)) (j)))), some (.int (nI (j))), some (.int (nI (10 * tz (rg (N_t (S_N S)) j) + pop (rg (N_t (S_N S)) j))))]) d_M_count_54 ⟨by decide, rfl⟩ rfl ?_
          refine aw_iload d_M_count_55 rfl ?_
          refine aw_bipush (v := nI 10) d_M_count_57 (by decide) ?_
          refine aw_irem d_M_count_59 (by decide) ?_
          rw [ri_r (by omega) (by omega)]
          refine aw_iload_n d_M_count_60 rfl ?_
          refine aw_icmp_le (tgt := 72) d_M_count_61 (by decide) (fun c61 => ?_) (fun c61 => ?_)
          · refine aw_iload_n d_M_count_72 rfl ?_
            refine aw_istore_n (L' := [some (.ref 56), some (.int what), some (.int v54), some (.int (nI (rgm (N_t (S_N S)) (j)))), some (.int (nI (j))), some (.int (nI (10 * tz (rg (N_t (S_N S)) j) + pop (rg (N_t (S_N S)) j))))]) d_M_count_73 ⟨by decide, rfl⟩ rfl ?_
            refine aw_iinc (v := nI ((j) + 1)) (L' := [some (.ref 56), some (.int what), some (.int v54), some (.int (nI (rgm (N_t (S_N S)) (j)))), some (.int (nI ((j) + 1))), some (.int (nI (10 * tz (rg (N_t (S_N S)) j) + pop (rg (N_t (S_N S)) j))))]) d_M_count_74 rfl (nI_1 _) ⟨by decide, rfl⟩ rfl ?_
            refine aw_goto (tgt := 7) d_M_count_77 (by decide) ?_
            have e1 : rgs (N_t (S_N S)) (j + 1) = rgs (N_t (S_N S)) j + (if decide (tz (rg (N_t (S_N S)) j) = j ∧ 1 < pop (rg (N_t (S_N S)) j)) then 1 else 0) := rfl
            have e2 : v54 = nI (rgs (N_t (S_N S)) (j + 1)) := by
              rw [ev54, nI_add, e1]
              first
                | (rw [decide_eq_true (show tz (rg (N_t (S_N S)) j) = j ∧ 1 < pop (rg (N_t (S_N S)) j) from ⟨(nI_eq (by omega) (by omega)).mp c36, Nat.not_le.mp (fun q => c45 (nI_le q (by decide)))⟩)]; rfl)
                | (rw [decide_eq_false (fun q => absurd (by rw [q.1]) c36)]; rfl)
                | (rw [decide_eq_false (fun q => absurd ((nI_leI (by omega) (by decide)).mp c45) (by omega))]; rfl)
            have e3 : (nI (rgm (N_t (S_N S)) (j))) = nI (rgm (N_t (S_N S)) (j + 1)) := by
              rw [rgm]
              first
                | (rw [if_neg (Nat.not_lt.mpr ((nI_leI (by omega) (by omega)).mp c61))]; done)
                | (rw [if_pos (Nat.not_le.mp (fun q => c61 (nI_le q (by omega))))]; done)
            rw [e2, e3]
            exact aw_drop 5 (ih (j + 1) (by omega))
          · refine aw_iload d_M_count_64 rfl ?_
            refine aw_bipush (v := nI 10) d_M_count_66 (by decide) ?_
            refine aw_irem d_M_count_68 (by decide) ?_
            rw [ri_r (by omega) (by omega)]
            refine aw_goto (tgt := 73) d_M_count_69 (by decide) ?_
            refine aw_istore_n (L' := [some (.ref 56), some (.int what), some (.int v54), some (.int (nI (pop (rg (N_t (S_N S)) j)))), some (.int (nI (j))), some (.int (nI (10 * tz (rg (N_t (S_N S)) j) + pop (rg (N_t (S_N S)) j))))]) d_M_count_73 ⟨by decide, rfl⟩ rfl ?_
            refine aw_iinc (v := nI ((j) + 1)) (L' := [some (.ref 56), some (.int what), some (.int v54), some (.int (nI (pop (rg (N_t (S_N S)) j)))), some (.int (nI ((j) + 1))), some (.int (nI (10 * tz (rg (N_t (S_N S)) j) + pop (rg (N_t (S_N S)) j))))]) d_M_count_74 rfl (nI_1 _) ⟨by decide, rfl⟩ rfl ?_
            refine aw_goto (tgt := 7) d_M_count_77 (by decide) ?_
            have e1 : rgs (N_t (S_N S)) (j + 1) = rgs (N_t (S_N S)) j + (if decide (tz (rg (N_t (S_N S)) j) = j ∧ 1 < pop (rg (N_t (S_N S)) j)) then 1 else 0) := rfl
            have e2 : v54 = nI (rgs (N_t (S_N S)) (j + 1)) := by
              rw [ev54, nI_add, e1]
              first
                | (rw [decide_eq_true (show tz (rg (N_t (S_N S)) j) = j ∧ 1 < pop (rg (N_t (S_N S)) j) from ⟨(nI_eq (by omega) (by omega)).mp c36, Nat.not_le.mp (fun q => c45 (nI_le q (by decide)))⟩)]; rfl)
                | (rw [decide_eq_false (fun q => absurd (by rw [q.1]) c36)]; rfl)
                | (rw [decide_eq_false (fun q => absurd ((nI_leI (by omega) (by decide)).mp c45) (by omega))]; rfl)
            have e3 : (nI (pop (rg (N_t (S_N S)) j))) = nI (rgm (N_t (S_N S)) (j + 1)) := by
              rw [rgm]
              first
                | (rw [if_neg (Nat.not_lt.mpr ((nI_leI (by omega) (by omega)).mp c61))]; done)
                | (rw [if_pos (Nat.not_le.mp (fun q => c61 (nI_le q (by omega))))]; done)
            rw [e2, e3]
            exact aw_drop 5 (ih (j + 1) (by omega))
        · refine aw_iload d_M_count_39 rfl ?_
          refine aw_bipush (v := nI 10) d_M_count_41 (by decide) ?_
          refine aw_irem d_M_count_43 (by decide) ?_
          rw [ri_r (by omega) (by omega)]
          refine aw_iconst (v := nI 1) d_M_count_44 (by decide) ?_
          refine aw_icmp_le (tgt := 52) d_M_count_45 (by decide) (fun c45 => ?_) (fun c45 => ?_)
          · refine aw_iconst (v := nI 0) d_M_count_52 (by decide) ?_
            refine aw_iadd d_M_count_53 ?_
            refine aw_topi (fun v54 ev54 => ?_)
            refine aw_istore_n (L' := [some (.ref 56), some (.int what), some (.int v54), some (.int (nI (rgm (N_t (S_N S)) (j)))), some (.int (nI (j))), some (.int (nI (10 * tz (rg (N_t (S_N S)) j) + pop (rg (N_t (S_N S)) j))))]) d_M_count_54 ⟨by decide, rfl⟩ rfl ?_
            refine aw_iload d_M_count_55 rfl ?_
            refine aw_bipush (v := nI 10) d_M_count_57 (by decide) ?_
            refine aw_irem d_M_count_59 (by decide) ?_
            rw [ri_r (by omega) (by omega)]
            refine aw_iload_n d_M_count_60 rfl ?_
            refine aw_icmp_le (tgt := 72) d_M_count_61 (by decide) (fun c61 => ?_) (fun c61 => ?_)
            · refine aw_iload_n d_M_count_72 rfl ?_
              refine aw_istore_n (L' := [some (.ref 56), some (.int what), some (.int v54), some (.int (nI (rgm (N_t (S_N S)) (j)))), some (.int (nI (j))), some (.int (nI (10 * tz (rg (N_t (S_N S)) j) + pop (rg (N_t (S_N S)) j))))]) d_M_count_73 ⟨by decide, rfl⟩ rfl ?_
              refine aw_iinc (v := nI ((j) + 1)) (L' := [some (.ref 56), some (.int what), some (.int v54), some (.int (nI (rgm (N_t (S_N S)) (j)))), some (.int (nI ((j) + 1))), some (.int (nI (10 * tz (rg (N_t (S_N S)) j) + pop (rg (N_t (S_N S)) j))))]) d_M_count_74 rfl (nI_1 _) ⟨by decide, rfl⟩ rfl ?_
              refine aw_goto (tgt := 7) d_M_count_77 (by decide) ?_
              have e1 : rgs (N_t (S_N S)) (j + 1) = rgs (N_t (S_N S)) j + (if decide (tz (rg (N_t (S_N S)) j) = j ∧ 1 < pop (rg (N_t (S_N S)) j)) then 1 else 0) := rfl
              have e2 : v54 = nI (rgs (N_t (S_N S)) (j + 1)) := by
                rw [ev54, nI_add, e1]
                first
                  | (rw [decide_eq_true (show tz (rg (N_t (S_N S)) j) = j ∧ 1 < pop (rg (N_t (S_N S)) j) from ⟨(nI_eq (by omega) (by omega)).mp c36, Nat.not_le.mp (fun q => c45 (nI_le q (by decide)))⟩)]; rfl)
                  | (rw [decide_eq_false (fun q => absurd (by rw [q.1]) c36)]; rfl)
                  | (rw [decide_eq_false (fun q => absurd ((nI_leI (by omega) (by decide)).mp c45) (by omega))]; rfl)
              have e3 : (nI (rgm (N_t (S_N S)) (j))) = nI (rgm (N_t (S_N S)) (j + 1)) := by
                rw [rgm]
                first
                  | (rw [if_neg (Nat.not_lt.mpr ((nI_leI (by omega) (by omega)).mp c61))]; done)
                  | (rw [if_pos (Nat.not_le.mp (fun q => c61 (nI_le q (by omega))))]; done)
              rw [e2, e3]
              exact aw_drop 5 (ih (j + 1) (by omega))
            · refine aw_iload d_M_count_64 rfl ?_
              refine aw_bipush (v := nI 10) d_M_count_66 (by decide) ?_
              refine aw_irem d_M_count_68 (by decide) ?_
              rw [ri_r (by omega) (by omega)]
              refine aw_goto (tgt := 73) d_M_count_69 (by decide) ?_
              refine aw_istore_n (L' := [some (.ref 56), some (.int what), some (.int v54), some (.int (nI (pop (rg (N_t (S_N S)) j)))), some (.int (nI (j))), some (.int (nI (10 * tz (rg (N_t (S_N S)) j) + pop (rg (N_t (S_N S)) j))))]) d_M_count_73 ⟨by decide, rfl⟩ rfl ?_
              refine aw_iinc (v := nI ((j) + 1)) (L' := [some (.ref 56), some (.int what), some (.int v54), some (.int (nI (pop (rg (N_t (S_N S)) j)))), some (.int (nI ((j) + 1))), some (.int (nI (10 * tz (rg (N_t (S_N S)) j) + pop (rg (N_t (S_N S)) j))))]) d_M_count_74 rfl (nI_1 _) ⟨by decide, rfl⟩ rfl ?_
              refine aw_goto (tgt := 7) d_M_count_77 (by decide) ?_
              have e1 : rgs (N_t (S_N S)) (j + 1) = rgs (N_t (S_N S)) j + (if decide (tz (rg (N_t (S_N S)) j) = j ∧ 1 < pop (rg (N_t (S_N S)) j)) then 1 else 0) := rfl
              have e2 : v54 = nI (rgs (N_t (S_N S)) (j + 1)) := by
                rw [ev54, nI_add, e1]
                first
                  | (rw [decide_eq_true (show tz (rg (N_t (S_N S)) j) = j ∧ 1 < pop (rg (N_t (S_N S)) j) from ⟨(nI_eq (by omega) (by omega)).mp c36, Nat.not_le.mp (fun q => c45 (nI_le q (by decide)))⟩)]; rfl)
                  | (rw [decide_eq_false (fun q => absurd (by rw [q.1]) c36)]; rfl)
                  | (rw [decide_eq_false (fun q => absurd ((nI_leI (by omega) (by decide)).mp c45) (by omega))]; rfl)
              have e3 : (nI (pop (rg (N_t (S_N S)) j))) = nI (rgm (N_t (S_N S)) (j + 1)) := by
                rw [rgm]
                first
                  | (rw [if_neg (Nat.not_lt.mpr ((nI_leI (by omega) (by omega)).mp c61))]; done)
                  | (rw [if_pos (Nat.not_le.mp (fun q => c61 (nI_le q (by omega))))]; done)
              rw [e2, e3]
              exact aw_drop 5 (ih (j + 1) (by omega))
          · refine aw_iconst (v := nI 1) d_M_count_48 (by decide) ?_
            refine aw_goto (tgt := 53) d_M_count_49 (by decide) ?_
            refine aw_iadd d_M_count_53 ?_
            refine aw_topi (fun v54 ev54 => ?_)
            refine aw_istore_n (L' := [some (.ref 56), some (.int what), some (.int v54), some (.int (nI (rgm (N_t (S_N S)) (j)))), some (.int (nI (j))), some (.int (nI (10 * tz (rg (N_t (S_N S)) j) + pop (rg (N_t (S_N S)) j))))]) d_M_count_54 ⟨by decide, rfl⟩ rfl ?_
            refine aw_iload d_M_count_55 rfl ?_
            refine aw_bipush (v := nI 10) d_M_count_57 (by decide) ?_
            refine aw_irem d_M_count_59 (by decide) ?_
            rw [ri_r (by omega) (by omega)]
            refine aw_iload_n d_M_count_60 rfl ?_
            refine aw_icmp_le (tgt := 72) d_M_count_61 (by decide) (fun c61 => ?_) (fun c61 => ?_)
            · refine aw_iload_n d_M_count_72 rfl ?_
              refine aw_istore_n (L' := [some (.ref 56), some (.int what), some (.int v54), some (.int (nI (rgm (N_t (S_N S)) (j)))), some (.int (nI (j))), some (.int (nI (10 * tz (rg (N_t (S_N S)) j) + pop (rg (N_t (S_N S)) j))))]) d_M_count_73 ⟨by decide, rfl⟩ rfl ?_
              refine aw_iinc (v := nI ((j) + 1)) (L' := [some (.ref 56), some (.int what), some (.int v54), some (.int (nI (rgm (N_t (S_N S)) (j)))), some (.int (nI ((j) + 1))), some (.int (nI (10 * tz (rg (N_t (S_N S)) j) + pop (rg (N_t (S_N S)) j))))]) d_M_count_74 rfl (nI_1 _) ⟨by decide, rfl⟩ rfl ?_
              refine aw_goto (tgt := 7) d_M_count_77 (by decide) ?_
              have e1 : rgs (N_t (S_N S)) (j + 1) = rgs (N_t (S_N S)) j + (if decide (tz (rg (N_t (S_N S)) j) = j ∧ 1 < pop (rg (N_t (S_N S)) j)) then 1 else 0) := rfl
              have e2 : v54 = nI (rgs (N_t (S_N S)) (j + 1)) := by
                rw [ev54, nI_add, e1]
                first
                  | (rw [decide_eq_true (show tz (rg (N_t (S_N S)) j) = j ∧ 1 < pop (rg (N_t (S_N S)) j) from ⟨(nI_eq (by omega) (by omega)).mp c36, Nat.not_le.mp (fun q => c45 (nI_le q (by decide)))⟩)]; rfl)
                  | (rw [decide_eq_false (fun q => absurd (by rw [q.1]) c36)]; rfl)
                  | (rw [decide_eq_false (fun q => absurd ((nI_leI (by omega) (by decide)).mp c45) (by omega))]; rfl)
              have e3 : (nI (rgm (N_t (S_N S)) (j))) = nI (rgm (N_t (S_N S)) (j + 1)) := by
                rw [rgm]
                first
                  | (rw [if_neg (Nat.not_lt.mpr ((nI_leI (by omega) (by omega)).mp c61))]; done)
                  | (rw [if_pos (Nat.not_le.mp (fun q => c61 (nI_le q (by omega))))]; done)
              rw [e2, e3]
              exact aw_drop 5 (ih (j + 1) (by omega))
            · refine aw_iload d_M_count_64 rfl ?_
              refine aw_bipush (v := nI 10) d_M_count_66 (by decide) ?_
              refine aw_irem d_M_count_68 (by decide) ?_
              rw [ri_r (by omega) (by omega)]
              refine aw_goto (tgt := 73) d_M_count_69 (by decide) ?_
              refine aw_istore_n (L' := [some (.ref 56), some (.int what), some (.int v54), some (.int (nI (pop (rg (N_t (S_N S)) j)))), some (.int (nI (j))), some (.int (nI (10 * tz (rg (N_t (S_N S)) j) + pop (rg (N_t (S_N S)) j))))]) d_M_count_73 ⟨by decide, rfl⟩ rfl ?_
              refine aw_iinc (v := nI ((j) + 1)) (L' := [some (.ref 56), some (.int what), some (.int v54), some (.int (nI (pop (rg (N_t (S_N S)) j)))), some (.int (nI ((j) + 1))), some (.int (nI (10 * tz (rg (N_t (S_N S)) j) + pop (rg (N_t (S_N S)) j))))]) d_M_count_74 rfl (nI_1 _) ⟨by decide, rfl⟩ rfl ?_
              refine aw_goto (tgt := 7) d_M_count_77 (by decide) ?_
              have e1 : rgs (N_t (S_N S)) (j + 1) = rgs (N_t (S_N S)) j + (if decide (tz (rg (N_t (S_N S)) j) = j ∧ 1 < pop (rg (N_t (S_N S)) j)) then 1 else 0) := rfl
              have e2 : v54 = nI (rgs (N_t (S_N S)) (j + 1)) := by
                rw [ev54, nI_add, e1]
                first
                  | (rw [decide_eq_true (show tz (rg (N_t (S_N S)) j) = j ∧ 1 < pop (rg (N_t (S_N S)) j) from ⟨(nI_eq (by omega) (by omega)).mp c36, Nat.not_le.mp (fun q => c45 (nI_le q (by decide)))⟩)]; rfl)
                  | (rw [decide_eq_false (fun q => absurd (by rw [q.1]) c36)]; rfl)
                  | (rw [decide_eq_false (fun q => absurd ((nI_leI (by omega) (by decide)).mp c45) (by omega))]; rfl)
              have e3 : (nI (pop (rg (N_t (S_N S)) j))) = nI (rgm (N_t (S_N S)) (j + 1)) := by
                rw [rgm]
                first
                  | (rw [if_neg (Nat.not_lt.mpr ((nI_leI (by omega) (by omega)).mp c61))]; done)
                  | (rw [if_pos (Nat.not_le.mp (fun q => c61 (nI_le q (by omega))))]; done)
              rw [e2, e3]
              exact aw_drop 5 (ih (j + 1) (by omega))
  refine aw_iconst (v := nI 0) d_M_count_0 (by decide) ?_
  refine aw_istore_n (L' := [some (.ref 56), some (.int what), some (.int (nI 0)), none, none, none]) d_M_count_1 ⟨by decide, rfl⟩ rfl ?_
  refine aw_iconst (v := nI 0) d_M_count_2 (by decide) ?_
  refine aw_istore_n (L' := [some (.ref 56), some (.int what), some (.int (nI 0)), some (.int (nI 0)), none, none]) d_M_count_3 ⟨by decide, rfl⟩ rfl ?_
  refine aw_iconst (v := nI 0) d_M_count_4 (by decide) ?_
  refine aw_istore (L' := [some (.ref 56), some (.int what), some (.int (nI 0)), some (.int (nI 0)), some (.int (nI 0)), none]) d_M_count_5 ⟨by decide, rfl⟩ rfl ?_
  exact loop (N_n (S_N S)) 0 (by omega)
theorem y_well {V : VV} {m c : Nat} {h : ab_H} {S : SS} (hM : PM V c h S) (ok : S_ok S) (hc : c < 900)   : CM V Y_M_well [] m c h (fun r S2 => (r, S2) = (sp_well S, S)) := by
  obtain ⟨⟨tab, la, at_, wr, ve, fs, ft, m0, m1, m2, m3, m4, m5, m6⟩, ⟨n0, n1, n2, n3, n4, n5, n6, n7, n8, n9⟩, q1, q2, q3, q4⟩ := id hM
  have hn6 : N_n (S_N S) ≤ 6 := ok.1.1
  have hnT := nI_toInt (show N_n (S_N S) < 2 ^ 31 by omega)
  have hpm := ok.1.pm
  have hfx := ok.1.2.2.1
  have hw6 := ok.1.w6
  refine ab_C.of (L := [some (.ref 56)]) rfl rfl (Nat.le_of_ble_eq_true rfl) (fun l => ?_)
  obtain ⟨gx, hx, ax⟩ := id n0
  obtain ⟨gy, hy, ay⟩ := id n1
  obtain ⟨gm, hm, am⟩ := id n2
  obtain ⟨g, hg, ag⟩ := id n3
  obtain ⟨gw, hw, aw⟩ := id n5
  refine aw_aload_n d_M_well_0 rfl ?_
  refine aw_aload_n d_M_well_1 rfl ?_
  refine aw_get (k := 4) d_M_well_2 cl_Model k_M_19 (by decide) m0 rfl ?_
  refine aw_iconst (v := nI 0) d_M_well_5 (by decide) ?_
  refine aw_v0i d_M_well_6 k_M_216 ok_M_isWell rfl ⟨rfl, rfl⟩ cl_Model m0 (c_isWell (fr := 0) m0 hn6 hw aw hg (by decide) (by omega) hpm hfx (fun k hk => by rw [Nat.zero_add]; exact ag k hk)) rfl rfl (Nat.le_of_ble_eq_true rfl) ?_
  refine aw_if_eq (tgt := 16) d_M_well_9 (by decide) (fun c9 => ?_) (fun c9 => ?_)
  · refine aw_iconst (v := nI 0) d_M_well_16 (by decide) ?_
    refine aw_ireturn d_M_well_17 rfl rfl ?_
    refine ⟨_, S, rfl, ?_, ⟨⟨tab, la, at_, wr, ve, fs, ft, m0, by omega, by omega, m3, m4, m5, m6⟩, ⟨n0, n1, n2, n3, n4, n5, n6, n7, n8, n9⟩, q1, q2, q3, q4⟩, rfl, fun k _ => rfl⟩
    have e := wlp_ow (w := N_w (S_N S)) hn6 hpm hfx
    unfold sp_well wel
    rw [← e]
    first
      | (rw [ab_bl_0.mp c9]; rfl)
      | (rw [ab_bl_1.mp c9]; rfl)
  · refine aw_iconst (v := nI 1) d_M_well_12 (by decide) ?_
    refine aw_goto (tgt := 17) d_M_well_13 (by decide) ?_
    refine aw_ireturn d_M_well_17 rfl rfl ?_
    refine ⟨_, S, rfl, ?_, ⟨⟨tab, la, at_, wr, ve, fs, ft, m0, by omega, by omega, m3, m4, m5, m6⟩, ⟨n0, n1, n2, n3, n4, n5, n6, n7, n8, n9⟩, q1, q2, q3, q4⟩, rfl, fun k _ => rfl⟩
    have e := wlp_ow (w := N_w (S_N S)) hn6 hpm hfx
    unfold sp_well wel
    rw [← e]
    first
      | (rw [ab_bl_0.mp c9]; rfl)
      | (rw [ab_bl_1.mp c9]; rfl)
