theorem tl255 : (lN 255).toInt = 255 := by decide
theorem tl32 : (lN 32).toInt = 32 := by decide
theorem tl126 : (lN 126).toInt = 126 := by decide
theorem yt_2 {m : Nat} {h : ab_H} {S : SS} {w : Int64} {n : Nat} (l : Launch) {Q : Option Value → Nat → ab_H → Prop} {tl : Nat} {tab la at_ wr : Int32} {ve : Nat} (h1 : tl + n ≤ 100)
    (kk : ∀ g : Nat → Int32, (∀ k, k < tl → g k = S_ts S k) → (∀ k, tl ≤ k → k < tl + n → g k = nI (by_ w (n - 1 - (k - tl)))) → ab_W Y_M_type none l Q 115 [some (.ref 56), some (.long w), none, some (.int (nI n)), some (.int (nI 0 - nI 1))] [] m (ab_set (ab_set h 76 (.inl (100, g))) 56 (oM (N_n (S_N S)) (N_ns (S_N S)) (N_ra (S_N S)) (N_se (S_N S)) (N_me (S_N S)) (N_mi (S_N S)) tab (nI ve) la (tl + n) at_ wr (N_fe (S_N S)) (S_K S).isSome)) (0, 0)) :
    ∀ (r : Nat) (g : Nat → Int32), r ≤ n → (∀ k, k < tl → g k = S_ts S k) → (∀ k, tl ≤ k → k < tl + (n - r) → g k = nI (by_ w (n - 1 - (k - tl)))) → ab_W Y_M_type none l Q 73 [some (.ref 56), some (.long w), none, some (.int (nI n)), some (.int (nI r - nI 1))] [] m (ab_set (ab_set h 76 (.inl (100, g))) 56 (oM (N_n (S_N S)) (N_ns (S_N S)) (N_ra (S_N S)) (N_se (S_N S)) (N_me (S_N S)) (N_mi (S_N S)) tab (nI ve) la (tl + (n - r)) at_ wr (N_fe (S_N S)) (S_K S).isSome)) (0, 0)
  | 0, g, hr, e1, e2 => by
    refine aw_iload d_M_type_73 rfl ?_
    refine aw_if_lt (tgt := 115) d_M_type_75 (by decide) (fun c75 => ?_) (fun c75 => ?_)
    · exact kk g e1 e2
    · exact absurd nI_1lt c75
  | r + 1, g, hr, e1, e2 => by
    rw [show nI (r + 1) - nI 1 = nI r from nI_pred _]
    refine aw_iload d_M_type_73 rfl ?_
    refine aw_if_lt (tgt := 115) d_M_type_75 (by decide) (fun c75 => ?_) (fun c75 => ?_)
    · exact absurd c75 (nI_n0 (by omega))
    · refine aw_aload_n d_M_type_78 rfl ?_
      refine aw_get (k := 28) d_M_type_79 cl_Model k_M_79 (by decide) rfl rfl ?_
      refine aw_aload_n d_M_type_82 rfl ?_
      refine aw_get (k := 29) d_M_type_83 cl_Model k_M_275 (by decide) rfl rfl ?_
      refine aw_lload_n d_M_type_86 rfl ?_
      refine aw_bipush (v := nI 8) d_M_type_87 (by decide) ?_
      refine aw_iload d_M_type_89 rfl ?_
      refine aw_imul d_M_type_91 ?_
      refine aw_lshr d_M_type_92 ?_
      refine aw_ldc2 (v := lN 255) d_M_type_93 k_M_269 ?_
      refine aw_land d_M_type_96 ?_
      refine aw_l2i d_M_type_97 ?_
      rw [by_3]
      refine aw_iastoreN d_M_type_98 rfl (by omega) (by decide) ?_
      refine aw_aload_n d_M_type_99 rfl ?_
      refine aw_dup d_M_type_100 rfl ?_
      refine aw_get (k := 29) d_M_type_101 cl_Model k_M_275 (by decide) rfl rfl ?_
      refine aw_iconst (v := nI 1) d_M_type_104 (by decide) ?_
      refine aw_iadd d_M_type_105 ?_
      rw [nI_add]
      refine aw_put (k := 29) (fs' := [.int (nI (N_n (S_N S))), .ref 57, .ref 58, .ref 59, .ref 60, .ref 61, .ref 62, .ref 63, .int (nI (N_ns (S_N S))), .ref 64, .ref 65, .int (nI (N_ra (S_N S))), .int (nI (N_se (S_N S))), .int (N_me (S_N S)), .int (N_mi (S_N S)), .ref 66, .ref 67, .int tab, .ref 68, .ref 69, .ref 70, .ref 71, .ref 72, .ref 73, .ref 74, .int (nI ve), .int la, .ref 75, .ref 76, .int (nI (tl + (n - (r + 1)) + 1)), .int at_, .int wr, .ref 77, .ref 78, .int (nI (N_fe (S_N S))), .ref 79, .ref 80, .ref 81, .ref 82, .ref 83, .ref 84, .int (ab_bl (S_K S).isSome), .ref 85, .ref 86, .ref 87, .ref 88]) d_M_type_106 cl_Model k_M_275 (by decide) rfl ⟨rfl, rfl⟩ rfl (Nat.le_of_ble_eq_true rfl) rfl ?_
      obtain ⟨v109, ev109⟩ : ∃ z : Int32, z = nI r + Int32.ofInt (-1) := ⟨_, rfl⟩
      refine aw_iinc (v := v109) (L' := [some (.ref 56), some (.long w), none, some (.int (nI n)), some (.int v109)]) d_M_type_109 rfl ev109.symm ⟨by decide, rfl⟩ rfl ?_
      refine aw_goto (tgt := 73) d_M_type_112 (by decide) ?_
      rw [ev109, nI_dec, show tl + (n - (r + 1)) + 1 = tl + (n - r) by omega]
      rw [show ∀ (H : ab_H) (e1 e2 : ab_E) (e3 e4 : ab_E), ab_set (ab_set (ab_set (ab_set H 76 e1) 56 e2) 76 e3) 56 e4 = ab_set (ab_set H 76 e3) 56 e4 from fun H e1 e2 e3 e4 => by rw [ab_set_swap (a := 56) (b := 76) (by decide), ab_set_set, ab_set_set]]
      refine yt_2 l h1 kk r _ (by omega) (fun k hk => by rw [pk_un (by omega)]; exact e1 k hk) (fun k hk hk2 => ?_)
      by_cases q : k = tl + (n - (r + 1))
      · subst q
        rw [pk_us, show n - 1 - (tl + (n - (r + 1)) - tl) = r by omega]
      · rw [pk_un q]
        exact e2 k hk (by omega)
theorem yt_1 {m : Nat} {h : ab_H} {w : Int64} {n : Nat} (l : Launch) {Q : Option Value → Nat → ab_H → Prop} (hn : n ≤ 8) (kb : ∀ k, k < n → ¬ (32 ≤ by_ w k ∧ by_ w k ≤ 126) → Q (some (.int (-1))) m h) (kk : (∀ k, k < n → 32 ≤ by_ w k ∧ by_ w k ≤ 126) → ab_W Y_M_type none l Q 54 [some (.ref 56), some (.long w), none, some (.int (nI n)), some (.int (nI n))] [] m h (0, 0)) :
    ∀ (k j : Nat), j + k = n → (∀ i, i < j → 32 ≤ by_ w i ∧ by_ w i ≤ 126) → ab_W Y_M_type none l Q 17 [some (.ref 56), some (.long w), none, some (.int (nI n)), some (.int (nI j))] [] m h (0, 0)
  | 0, j, hj, e => by
    have hj2 : j = n := by omega
    subst hj2
    refine aw_iload d_M_type_17 rfl ?_
    refine aw_iload_n d_M_type_19 rfl ?_
    refine aw_icmp_ge (tgt := 54) d_M_type_20 (by decide) (fun c20 => ?_) (fun c20 => ?_)
    · exact kk e
    · exact absurd (Int32.le_refl _) c20
  | k + 1, j, hj, e => by
    have hb := by_2 w j
    refine aw_iload d_M_type_17 rfl ?_
    refine aw_iload_n d_M_type_19 rfl ?_
    refine aw_icmp_ge (tgt := 54) d_M_type_20 (by decide) (fun c20 => ?_) (fun c20 => ?_)
    · exact absurd c20 (nI_ge (by omega) (by omega))
    · refine aw_lload_n d_M_type_23 rfl ?_
      refine aw_bipush (v := nI 8) d_M_type_24 (by decide) ?_
      refine aw_iload d_M_type_26 rfl ?_
      refine aw_imul d_M_type_28 ?_
      refine aw_lshr d_M_type_29 ?_
      refine aw_ldc2 (v := lN 255) d_M_type_30 k_M_269 ?_
      refine aw_land d_M_type_33 ?_
      refine aw_ldc2 (v := lN 32) d_M_type_34 k_M_271 ?_
      refine aw_ldc2 (v := lN 126) d_M_type_37 k_M_273 ?_
      refine aw_s0i d_M_type_40 k_M_121 ok_M_in rfl ⟨rfl, rfl⟩ (c_in ((w >>> (((nI 8) * (nI j)).toInt64 &&& 63)) &&& (lN 255)) (lN 32) (lN 126)) rfl rfl (Nat.le_of_ble_eq_true rfl) ?_
      refine aw_if_ne (tgt := 48) d_M_type_43 (by decide) (fun c43 => ?_) (fun c43 => ?_)
      · refine aw_iinc (v := nI (j + 1)) (L' := [some (.ref 56), some (.long w), none, some (.int (nI n)), some (.int (nI (j + 1)))]) d_M_type_48 rfl (nI_1 _) ⟨by decide, rfl⟩ rfl ?_
        refine aw_goto (tgt := 17) d_M_type_51 (by decide) ?_
        refine yt_1 l hn kb kk k (j + 1) (by omega) (fun i hi => ?_)
        by_cases q : i = j
        · subst q
          have c := of_decide_eq_true (ab_bl_1.mp c43)
          rw [hb, tl32, tl126] at c
          omega
        · exact e i (by omega)
      · refine aw_iconst (v := (-1)) d_M_type_46 (by decide) ?_
        refine aw_ireturn d_M_type_47 rfl rfl ?_
        refine kb j (by omega) (fun q => ?_)
        have c := of_decide_eq_false (ab_bl_0.mp c43)
        rw [hb, tl32, tl126] at c
        omega
theorem y_type {V : VV} {m c : Nat} {h : ab_H} {S : SS} (hM : PM V c h S) (ok : S_ok S) (hc : c < 900) (w : Int64) (n : Int32) : CM V Y_M_type [.long w, .int n] m c h (fun r S2 => (r, S2) = sp_typ S w n) := by
  obtain ⟨⟨tab, la, at_, wr, ve, fs, ft, m0, m1, m2, m3, m4, m5, m6⟩, ⟨n0, n1, n2, n3, n4, n5, n6, n7, n8, n9⟩, q1, q2, q3, q4⟩ := id hM
  have hn6 : N_n (S_N S) ≤ 6 := ok.1.1
  have hnT := nI_toInt (show N_n (S_N S) < 2 ^ 31 by omega)
  have htl : S_tl S ≤ 100 := ok.2.2.1
  obtain ⟨g0, t1, t2⟩ := id q1
  refine ab_C.of (L := [some (.ref 56), some (.long w), none, some (.int n), none]) rfl rfl (Nat.le_of_ble_eq_true rfl) (fun l => ?_)
  refine aw_iload_n d_M_type_0 rfl ?_
  refine aw_i2l d_M_type_1 ?_
  refine aw_lconst (v := lN 1) d_M_type_2 (by decide) ?_
  refine aw_ldc2 (v := lN 8) d_M_type_3 k_M_267 ?_
  refine aw_s0i d_M_type_6 k_M_121 ok_M_in rfl ⟨rfl, rfl⟩ (c_in n.toInt64 (lN 1) (lN 8)) rfl rfl (Nat.le_of_ble_eq_true rfl) ?_
  refine aw_if_ne (tgt := 14) d_M_type_9 (by decide) (fun c9 => ?_) (fun c9 => ?_)
  · have c := of_decide_eq_true (ab_bl_1.mp c9)
    rw [i64_toInt, tl1, tl8] at c
    obtain ⟨n, hn0, rfl⟩ : ∃ j : Nat, (j : Int) = n.toInt ∧ n = nI j := ⟨cl n, cl_int (by omega), cl_of (by omega)⟩
    have hn1 : 1 ≤ n := by omega
    have hn : n ≤ 8 := by omega
    have hT := nI_toInt (show n < 2 ^ 31 by omega)
    refine aw_iconst (v := nI 0) d_M_type_14 (by decide) ?_
    refine aw_istore (L' := [some (.ref 56), some (.long w), none, some (.int (nI n)), some (.int (nI 0))]) d_M_type_15 ⟨by decide, rfl⟩ rfl ?_
    refine yt_1 l hn (fun k hk hk2 => ?_) (fun hb => ?_) n 0 (by omega) (fun i hi => absurd hi (Nat.not_lt_zero _))
    · refine ⟨_, S, rfl, ?_, ⟨⟨tab, la, at_, wr, ve, fs, ft, m0, by omega, by omega, m3, m4, m5, m6⟩, ⟨n0, n1, n2, n3, n4, n5, n6, n7, n8, n9⟩, q1, q2, q3, q4⟩, rfl, fun k _ => rfl⟩
      unfold sp_typ
      rw [if_neg]
      intro q
      exact hk2 (q.2 k (by rw [cl_nI (by omega)]; exact hk))
    · refine aw_aload_n d_M_type_54 rfl ?_
      refine aw_get (k := 29) d_M_type_55 cl_Model k_M_275 (by decide) m0 rfl ?_
      refine aw_iload_n d_M_type_58 rfl ?_
      refine aw_iadd d_M_type_59 ?_
      refine aw_bipush (v := nI 100) d_M_type_60 (by decide) ?_
      refine aw_icmp_le (tgt := 68) d_M_type_62 (by decide) (fun c62 => ?_) (fun c62 => ?_)
      · refine aw_iload_n d_M_type_68 rfl ?_
        refine aw_iconst (v := nI 1) d_M_type_69 (by decide) ?_
        refine aw_isub d_M_type_70 ?_
        have h10 : S_tl S + n ≤ 100 := by
          rw [nI_add, fa_le, nI_toInt (by omega), nI_toInt (by decide)] at c62
          omega
        refine aw_topi (fun v71 ev71 => ?_)
        refine aw_istore (L' := [some (.ref 56), some (.long w), none, some (.int (nI n)), some (.int v71)]) d_M_type_71 ⟨by decide, rfl⟩ rfl ?_
        subst ev71
        have e9 : ab_set (ab_set h 76 (.inl (100, g0))) 56 (oM (N_n (S_N S)) (N_ns (S_N S)) (N_ra (S_N S)) (N_se (S_N S)) (N_me (S_N S)) (N_mi (S_N S)) tab (nI ve) la (S_tl S + (n - n)) at_ wr (N_fe (S_N S)) (S_K S).isSome) = h := by rw [Nat.sub_self, Nat.add_zero, ab_set_eq t1, ab_set_eq m0]
        refine aw_heap e9 (yt_2 (S := S) (tl := S_tl S) l h10 (fun g e1 e2 => ?_) n g0 (Nat.le_refl _) t2 (fun k k1 k2 => absurd k2 (by omega)))
        refine aw_aload_n d_M_type_115 rfl ?_
        refine aw_get (k := 29) d_M_type_116 cl_Model k_M_275 (by decide) rfl rfl ?_
        refine aw_ireturn d_M_type_119 rfl rfl ?_
        refine ⟨_, S_tl_ (S_ts_ S (fun k => if S_tl S ≤ k then nI (by_ w (n - 1 - (k - S_tl S))) else S_ts S k)) (S_tl S + n), rfl, ?_, ⟨⟨tab, la, at_, wr, ve, fs, ft, rfl, by omega, by omega, m3, m4, m5, m6⟩, ⟨n0, n1, n2, n3, n4, n5, n6, n7, n8, n9⟩, ⟨g, rfl, fun k hk => ?_⟩, q2, q3, q4⟩, rfl, (fun k hk => by rw [ab_set_ne (by omega), ab_set_ne (by omega)])⟩
        · unfold sp_typ
          rw [cl_nI (by omega), if_pos ⟨⟨by rw [hT]; omega, by rw [hT]; omega⟩, hb⟩, if_neg (by omega)]
        · show g k = if S_tl S ≤ k then nI (by_ w (n - 1 - (k - S_tl S))) else S_ts S k
          by_cases q : S_tl S ≤ k
          · rw [if_pos q]; exact e2 k q hk
          · rw [if_neg q]; exact e1 k (by omega)
      · refine aw_bipush (v := (-3)) d_M_type_65 (by decide) ?_
        refine aw_ireturn d_M_type_67 rfl rfl ?_
        refine ⟨_, S, rfl, ?_, ⟨⟨tab, la, at_, wr, ve, fs, ft, m0, by omega, by omega, m3, m4, m5, m6⟩, ⟨n0, n1, n2, n3, n4, n5, n6, n7, n8, n9⟩, q1, q2, q3, q4⟩, rfl, fun k _ => rfl⟩
        unfold sp_typ
        rw [cl_nI (by omega), if_pos ⟨⟨by rw [hT]; omega, by rw [hT]; omega⟩, hb⟩, if_pos]
        rw [nI_add] at c62
        exact Nat.not_le.mp fun q => c62 (nI_le q (by decide))
  · refine aw_iconst (v := (-1)) d_M_type_12 (by decide) ?_
    refine aw_ireturn d_M_type_13 rfl rfl ?_
    refine ⟨_, S, rfl, ?_, ⟨⟨tab, la, at_, wr, ve, fs, ft, m0, by omega, by omega, m3, m4, m5, m6⟩, ⟨n0, n1, n2, n3, n4, n5, n6, n7, n8, n9⟩, q1, q2, q3, q4⟩, rfl, fun k _ => rfl⟩
    unfold sp_typ
    rw [if_neg]
    intro q
    have q1 := q.1
    have c := of_decide_eq_false (ab_bl_0.mp c9)
    rw [i64_toInt, tl1, tl8] at c
    exact c q1
