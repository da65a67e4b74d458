theorem y_meet {V : VV} {m c : Nat} {h : ab_H} {S : SS} (hM : PM V c h S) (ok : S_ok S) (hc : c < 900) (hV : V_ok V) (x : Int32) : CM V Y_M_meet [.int x] m c h (fun r S2 => (r, S2) = sp_meet S x) := by
  obtain ⟨⟨tab, la, at_, wr, ve, fs, ft, m0, m1, m2, m3, m4, m5, m6⟩, ⟨n0, n1, n2, n3, n4, n5, n6, n7, n8, n9⟩, q1, q2, q3, q4⟩ := id hM
  have hn6 : N_n (S_N S) ≤ 6 := ok.1.1
  have hnT := nI_toInt (show N_n (S_N S) < 2 ^ 31 by omega)
  have hpm := ok.1.pm
  have hfx := ok.1.2.2.1
  have hw6 := ok.1.w6
  have hP : PMn h (S_N S) := ⟨n0, n1, n2, n3, n4, n5, n6, n7, n8, n9⟩
  obtain ⟨g, hg, ag⟩ := id n3
  obtain ⟨go, ho⟩ := id q3.2.1
  refine ab_C.of (L := [some (.ref 56), some (.int x), none, none, none]) rfl rfl (Nat.le_of_ble_eq_true rfl) (fun l => ?_)
  by_cases hx : x.toInt < 0
  · refine aw_aload_n d_M_meet_0 rfl ?_
    refine aw_aload_n d_M_meet_1 rfl ?_
    refine aw_get (k := 4) d_M_meet_2 cl_Model k_M_19 (by decide) m0 rfl ?_
    refine aw_iconst (v := nI 0) d_M_meet_5 (by decide) ?_
    refine aw_iload_n d_M_meet_6 rfl ?_
    refine aw_v0i (a := 56) d_M_meet_7 k_M_202 ok_M_whoMeets rfl ⟨rfl, rfl⟩ cl_Model m0 (c_whoN hx) rfl rfl (Nat.le_of_ble_eq_true rfl) ?_
    refine aw_istore_n (L' := [some (.ref 56), some (.int x), some (.int (nI 0)), none, none]) d_M_meet_10 ⟨by decide, rfl⟩ rfl ?_
    refine aw_iload_n d_M_meet_11 rfl ?_
    refine aw_if_ne (tgt := 17) d_M_meet_12 (by decide) (fun c12 => ?_) (fun c12 => ?_)
    · first | exact absurd c12 (by decide) | exact absurd (by decide) c12
    · refine aw_iconst (v := (-1)) d_M_meet_15 (by decide) ?_
      refine aw_ireturn d_M_meet_16 rfl rfl ?_
      refine ⟨_, S, rfl, ?_, ⟨⟨tab, la, at_, wr, ve, fs, ft, m0, by omega, by omega, m3, m4, m5, m6⟩, ⟨n0, n1, n2, n3, n4, n5, n6, n7, n8, n9⟩, q1, q2, q3, q4⟩, rfl, fun k _ => rfl⟩
      unfold sp_meet
      rw [if_pos (Or.inl hx)]
  obtain ⟨k, hk, rfl⟩ : ∃ k : Nat, k < 2 ^ 31 ∧ x = nI k := nI_of (fun q => hx (by rw [fa_lt, Int32.toInt_zero] at q; exact q))
  refine aw_aload_n d_M_meet_0 rfl ?_
  refine aw_aload_n d_M_meet_1 rfl ?_
  refine aw_get (k := 4) d_M_meet_2 cl_Model k_M_19 (by decide) m0 rfl ?_
  refine aw_iconst (v := nI 0) d_M_meet_5 (by decide) ?_
  refine aw_iload_n d_M_meet_6 rfl ?_
  refine aw_v0i (a := 56) d_M_meet_7 k_M_202 ok_M_whoMeets rfl ⟨rfl, rfl⟩ cl_Model m0 (c_whoMeets (fo := 0) m0 hP ok.1 hg (by decide) (by omega) hpm hfx (fun j hj => by rw [Nat.zero_add]; exact ag j hj) hk) rfl rfl (Nat.le_of_ble_eq_true rfl) ?_
  refine aw_istore_n (L' := [some (.ref 56), some (.int (nI k)), some (.int (nI (who (S_N S) (N_t (S_N S)) k))), none, none]) d_M_meet_10 ⟨by decide, rfl⟩ rfl ?_
  refine aw_iload_n d_M_meet_11 rfl ?_
  refine aw_if_ne (tgt := 17) d_M_meet_12 (by decide) (fun c12 => ?_) (fun c12 => ?_)
  · have hne : ¬ who (S_N S) (N_t (S_N S)) k = 0 := fun q => c12 (by rw [q]; rfl)
    obtain ⟨wl, wk⟩ := who_t ok.1 hpm hfx hne
    have wl6 := two_le6 hn6 wl
    have w2 : k / 10000 ≤ 2 := by omega
    have w0 : k / 10000 = 0 → k % 10000 / 100 < 6 ∧ k % 10000 % 100 < 6 := fun q => by omega
    have w1 : k / 10000 = 1 → k % 10000 / 1000 < 4 := fun q => by have := ok.1.2.2.2.2.2.2.2.2.1; omega
    have w3 : k / 10000 = 0 → k / 100 < N_n (S_N S) ∧ k % 100 < N_n (S_N S) := fun q => by omega
    have w4 : k / 10000 = 2 → ∀ p, p < N_n (S_N S) → (who (S_N S) (N_t (S_N S)) k / 2 ^ N_t (S_N S) p % 2 = 1 ↔ who (S_N S) (N_t (S_N S)) k / 2 ^ p % 2 = 1) := fun q => by
      rcases wk with z | z | z
      · exact absurd z.1 (by omega)
      · exact absurd z.1 (by omega)
      · rw [z.2.2.1]
        exact fun p hp => (rgb_t hpm (show k % 10000 < 6 by omega)).2 p (by omega)
    refine aw_iload_n d_M_meet_17 rfl ?_
    refine aw_aload_n d_M_meet_18 rfl ?_
    refine aw_v0i (a := 56) d_M_meet_19 k_M_205 ok_M_unwilling rfl ⟨rfl, rfl⟩ cl_Model m0 (c_unwilling m0 hP ok.1) rfl rfl (Nat.le_of_ble_eq_true rfl) ?_
    refine aw_iand d_M_meet_22 ?_
    rw [fa_and]
    refine aw_if_eq (tgt := 29) d_M_meet_23 (by decide) (fun c23 => ?_) (fun c23 => ?_)
    · have hz : who (S_N S) (N_t (S_N S)) k &&& N_w (S_N S) = 0 := (nI_eq (b := 0) (by have := and_63 (b := N_w (S_N S)) wl6; omega) (by decide)).mp c23
      refine aw_aload_n d_M_meet_29 rfl ?_
      refine aw_aload_n d_M_meet_30 rfl ?_
      refine aw_get (k := 4) d_M_meet_31 cl_Model k_M_19 (by decide) m0 rfl ?_
      refine aw_iconst (v := nI 0) d_M_meet_34 (by decide) ?_
      refine aw_iload_n d_M_meet_35 rfl ?_
      refine aw_iload_n d_M_meet_36 rfl ?_
      refine aw_v0i (a := 56) d_M_meet_37 k_M_208 ok_M_milesOf rfl ⟨rfl, rfl⟩ cl_Model m0 (c_MmilesOf (fo := 0) m0 hP ok.1 hg (by decide) (by omega) hpm hfx (fun j hj => by rw [Nat.zero_add]; exact ag j hj) hk wl6 w0 w1 w4 w2) rfl rfl (Nat.le_of_ble_eq_true rfl) ?_
      refine aw_istore_n (L' := [some (.ref 56), some (.int (nI k)), some (.int (nI (who (S_N S) (N_t (S_N S)) k))), some (.int (nI (mil (S_N S) (N_t (S_N S)) k (who (S_N S) (N_t (S_N S)) k)))), none]) d_M_meet_40 ⟨by decide, rfl⟩ rfl ?_
      refine aw_aload_n d_M_meet_41 rfl ?_
      refine aw_aload_n d_M_meet_42 rfl ?_
      refine aw_get (k := 4) d_M_meet_43 cl_Model k_M_19 (by decide) m0 rfl ?_
      refine aw_iconst (v := nI 0) d_M_meet_46 (by decide) ?_
      refine aw_iload_n d_M_meet_47 rfl ?_
      refine aw_iload_n d_M_meet_48 rfl ?_
      refine aw_aload_n d_M_meet_49 rfl ?_
      refine aw_get (k := 16) d_M_meet_50 cl_Model k_M_47 (by decide) m0 rfl ?_
      refine aw_iconst (v := nI 0) d_M_meet_53 (by decide) ?_
      refine aw_v0 (a := 56) d_M_meet_54 k_M_212 ok_M_meets rfl ⟨rfl, rfl⟩ cl_Model m0 (c_meets (fo := 0) m0 ok.1 hg (by decide) (by omega) hpm hfx (fun j hj => by rw [Nat.zero_add]; exact ag j hj) ho (by decide) (by decide) hk wl w3) rfl rfl (Nat.le_of_ble_eq_true rfl) (fun r m2 h2 q => ?_)
      obtain ⟨rfl, em, g2, rfl, eg2⟩ := q
      rw [em]
      show ab_W _ _ _ _ 57 _ [] _ _ _
      refine aw_iconst (v := nI 0) d_M_meet_57 (by decide) ?_
      refine aw_istore (L' := [some (.ref 56), some (.int (nI k)), some (.int (nI (who (S_N S) (N_t (S_N S)) k))), some (.int (nI (mil (S_N S) (N_t (S_N S)) k (who (S_N S) (N_t (S_N S)) k)))), some (.int (nI 0))]) d_M_meet_58 ⟨by decide, rfl⟩ rfl ?_
      have loop : ∀ kf j (g6 : Nat → Int32), j + kf = N_n (S_N S) → (∀ i, i < j → g6 i = nI (aft (N_t (S_N S)) k (who (S_N S) (N_t (S_N S)) k) i)) → ab_W Y_M_meet none l (fun r m2 h2 => ∃ (v : Int32) (S2 : SS), r = some (.int v) ∧ (v, S2) = sp_meet S (nI k) ∧ PM V (c + 1) h2 S2 ∧ m2 = m ∧ ∀ k, (k < 56 ∨ 88 < k) → h2 k = h k) 60 [some (.ref 56), some (.int (nI k)), some (.int (nI (who (S_N S) (N_t (S_N S)) k))), some (.int (nI (mil (S_N S) (N_t (S_N S)) k (who (S_N S) (N_t (S_N S)) k)))), some (.int (nI (j)))] [] m (ab_set (ab_set h 67 (.inl (6, g2))) 60 (.inl (6, g6))) (0, 0) := by
        intro kf
        induction kf with
        | zero =>
          intro j g6 hj e
          have hjn : N_n (S_N S) = j := by omega
          subst hjn
          refine aw_iload d_M_meet_60 rfl ?_
          refine aw_aload_n d_M_meet_62 rfl ?_
          refine aw_get (k := 0) d_M_meet_63 cl_Model k_M_118 (by decide) m0 rfl ?_
          refine aw_icmp_ge (tgt := 89) d_M_meet_66 (by decide) (fun c66 => ?_) (fun c66 => ?_)
          · refine aw_aload_n d_M_meet_89 rfl ?_
            refine aw_dup d_M_meet_90 rfl ?_
            refine aw_get (k := 13) d_M_meet_91 cl_Model k_M_181 (by decide) m0 rfl ?_
            refine aw_iconst (v := nI 1) d_M_meet_94 (by decide) ?_
            refine aw_iadd d_M_meet_95 ?_
            refine aw_put (k := 13) (fs' := [.int (nI (N_n (S_N S))), .ref 57, .ref 58, .ref 59, .ref 60, .ref 61, .ref 62, .ref 63, .int (nI (N_ns (S_N S))), .ref 64, .ref 65, .int (nI (N_ra (S_N S))), .int (nI (N_se (S_N S))), .int ((N_me (S_N S)) + (nI 1)), .int (N_mi (S_N S)), .ref 66, .ref 67, .int tab, .ref 68, .ref 69, .ref 70, .ref 71, .ref 72, .ref 73, .ref 74, .int (nI ve), .int la, .ref 75, .ref 76, .int (nI (S_tl S)), .int at_, .int wr, .ref 77, .ref 78, .int (nI (N_fe (S_N S))), .ref 79, .ref 80, .ref 81, .ref 82, .ref 83, .ref 84, .int (ab_bl (S_K S).isSome), .ref 85, .ref 86, .ref 87, .ref 88]) d_M_meet_96 cl_Model k_M_181 (by decide) rfl ⟨rfl, rfl⟩ m0 (Nat.le_of_ble_eq_true rfl) rfl ?_
            refine aw_aload_n d_M_meet_99 rfl ?_
            refine aw_dup d_M_meet_100 rfl ?_
            refine aw_get (k := 14) d_M_meet_101 cl_Model k_M_184 (by decide) rfl rfl ?_
            refine aw_iload_n d_M_meet_104 rfl ?_
            refine aw_iadd d_M_meet_105 ?_
            refine aw_put (k := 14) (fs' := [.int (nI (N_n (S_N S))), .ref 57, .ref 58, .ref 59, .ref 60, .ref 61, .ref 62, .ref 63, .int (nI (N_ns (S_N S))), .ref 64, .ref 65, .int (nI (N_ra (S_N S))), .int (nI (N_se (S_N S))), .int ((N_me (S_N S)) + (nI 1)), .int ((N_mi (S_N S)) + (nI (mil (S_N S) (N_t (S_N S)) k (who (S_N S) (N_t (S_N S)) k)))), .ref 66, .ref 67, .int tab, .ref 68, .ref 69, .ref 70, .ref 71, .ref 72, .ref 73, .ref 74, .int (nI ve), .int la, .ref 75, .ref 76, .int (nI (S_tl S)), .int at_, .int wr, .ref 77, .ref 78, .int (nI (N_fe (S_N S))), .ref 79, .ref 80, .ref 81, .ref 82, .ref 83, .ref 84, .int (ab_bl (S_K S).isSome), .ref 85, .ref 86, .ref 87, .ref 88]) d_M_meet_106 cl_Model k_M_184 (by decide) rfl ⟨rfl, rfl⟩ rfl (Nat.le_of_ble_eq_true rfl) rfl ?_
            refine aw_iload_n d_M_meet_109 rfl ?_
            refine aw_ireturn d_M_meet_110 rfl rfl ?_
            refine ⟨_, S_N_ S (N_t_ (N_me_ (N_mi_ (S_N S) (N_mi (S_N S) + nI (mil (S_N S) (N_t (S_N S)) k (who (S_N S) (N_t (S_N S)) k)))) (N_me (S_N S) + nI 1)) (aft (N_t (S_N S)) k (who (S_N S) (N_t (S_N S)) k))), rfl, ?_, ⟨⟨tab, la, at_, wr, ve, fs, ft, rfl, by omega, by omega, m3, m4, m5, ?_⟩, ⟨n0, n1, n2, ⟨g6, rfl, e⟩, n4, n5, n6, n7, n8, n9⟩, q1, q2, ⟨q3.1, ⟨g2, rfl⟩, q3.2.2⟩, q4⟩, rfl, fun k hk => by simp only [ab_set]; repeat rw [if_neg (by omega)]⟩
            · unfold sp_meet
              rw [cl_nI hk, if_neg (fun q => q.elim hx hne), if_neg (fun q => q hz)]
            · rw [show V.2.2.2.2 (S_N (S_N_ S (N_t_ (N_me_ (N_mi_ (S_N S) (N_mi (S_N S) + nI (mil (S_N S) (N_t (S_N S)) k (who (S_N S) (N_t (S_N S)) k)))) (N_me (S_N S) + nI 1)) (aft (N_t (S_N S)) k (who (S_N S) (N_t (S_N S)) k))))) = V.2.2.2.2 (S_N S) from hV.2.2.2.1 (S_N S) _ _ _]
              exact m6
          · exact absurd (Int32.le_refl _) c66
        | succ kf ih =>
          intro j g6 hj e
          refine aw_iload d_M_meet_60 rfl ?_
          refine aw_aload_n d_M_meet_62 rfl ?_
          refine aw_get (k := 0) d_M_meet_63 cl_Model k_M_118 (by decide) m0 rfl ?_
          refine aw_icmp_ge (tgt := 89) d_M_meet_66 (by decide) (fun c66 => ?_) (fun c66 => ?_)
          · exact absurd c66 (nI_ge (by omega) (by omega))
          · refine aw_aload_n d_M_meet_69 rfl ?_
            refine aw_get (k := 4) d_M_meet_70 cl_Model k_M_19 (by decide) m0 rfl ?_
            refine aw_iload d_M_meet_73 rfl ?_
            refine aw_aload_n d_M_meet_75 rfl ?_
            refine aw_get (k := 16) d_M_meet_76 cl_Model k_M_47 (by decide) m0 rfl ?_
            refine aw_iload d_M_meet_79 rfl ?_
            refine aw_ialoadN d_M_meet_81 rfl (by omega) (by decide) ?_
            refine aw_iastoreN d_M_meet_82 rfl (by omega) (by decide) ?_
            refine aw_iinc (v := nI ((j) + 1)) (L' := [some (.ref 56), some (.int (nI k)), some (.int (nI (who (S_N S) (N_t (S_N S)) k))), some (.int (nI (mil (S_N S) (N_t (S_N S)) k (who (S_N S) (N_t (S_N S)) k)))), some (.int (nI ((j) + 1)))]) d_M_meet_83 rfl (nI_1 _) ⟨by decide, rfl⟩ rfl ?_
            refine aw_goto (tgt := 60) d_M_meet_86 (by decide) ?_
            rw [ab_set_set]
            exact ih (j + 1) _ (by omega) (fun i hi => by
              by_cases q : i = j
              · subst q; rw [pk_us]; exact eg2 i (by omega)
              · rw [pk_un q]; exact e i (by omega))
      exact aw_heap (ab_set_eq (h := ab_set h 67 (.inl (6, g2))) (a := 60) hg) (loop (N_n (S_N S)) 0 g (by omega) (fun i hi => absurd hi (Nat.not_lt_zero _)))
    · refine aw_bipush (v := (-2)) d_M_meet_26 (by decide) ?_
      refine aw_ireturn d_M_meet_28 rfl rfl ?_
      refine ⟨_, S, rfl, ?_, ⟨⟨tab, la, at_, wr, ve, fs, ft, m0, by omega, by omega, m3, m4, m5, m6⟩, ⟨n0, n1, n2, n3, n4, n5, n6, n7, n8, n9⟩, q1, q2, q3, q4⟩, rfl, fun k _ => rfl⟩
      unfold sp_meet
      rw [cl_nI hk, if_neg (fun q => q.elim hx hne), if_pos (fun q => c23 (by rw [q]; rfl))]
  · refine aw_iconst (v := (-1)) d_M_meet_15 (by decide) ?_
    refine aw_ireturn d_M_meet_16 rfl rfl ?_
    refine ⟨_, S, rfl, ?_, ⟨⟨tab, la, at_, wr, ve, fs, ft, m0, by omega, by omega, m3, m4, m5, m6⟩, ⟨n0, n1, n2, n3, n4, n5, n6, n7, n8, n9⟩, q1, q2, q3, q4⟩, rfl, fun k _ => rfl⟩
    have hwl : who (S_N S) (N_t (S_N S)) k = 0 := by
      refine Classical.byContradiction fun q => ?_
      have := two_le6 hn6 (who_t ok.1 hpm hfx q).1
      exact q ((nI_eq (b := 0) (by omega) (by decide)).mp c12)
    unfold sp_meet
    rw [cl_nI hk, if_pos (Or.inr hwl)]
