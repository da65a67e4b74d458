theorem bt_at : ∀ w, w < 64 → ∀ p, p < 6 → nI w >>> (nI p &&& 31) &&& nI 1 = nI (w / 2 ^ p % 2) := by decide +kernel
theorem bt_on : ∀ w, w < 64 → ∀ p, p < 6 → nI w ||| nI 1 <<< (nI p &&& 31) = nI (bt w p true) := by decide +kernel
theorem bt_off : ∀ w, w < 64 → ∀ p, p < 6 → nI w &&& ((nI 1 <<< (nI p &&& 31)) ^^^ (-1)) = nI (bt w p false) := by decide +kernel
theorem two_le6 {n w : Nat} (hn : n ≤ 6) (h : w < 2 ^ n) : w < 64 := Nat.lt_of_lt_of_le h (Nat.pow_le_pow_right (by decide) hn)
theorem PXw.scal2 {V : VV} {m : Nat} {h : ab_H} {S : SS} {e : ab_E} (hX : PX V m h S) (N2 : NS) (he : e = oN 2 (N_n N2) (nI (pk (N_t N2))) (nI (N_w N2)) (N_ns N2) (N_ra N2) (N_se N2) (N_me N2) (N_mi N2) (N_fe N2)) (e1 : N_x N2 = N_x (S_N S)) (e2 : N_y N2 = N_y (S_N S)) (e3 : N_mk N2 = N_mk (S_N S)) (e4 : N_lk N2 = N_lk (S_N S)) (e5 : N_ma N2 = N_ma (S_N S)) (e6 : N_n N2 = N_n (S_N S)) (e7 : N_ix N2 = N_ix (S_N S)) (e8 : N_iy N2 = N_iy (S_N S)) (e9 : N_ff N2 = N_ff (S_N S)) : PXw V m (ab_set h 2 e) (S_N_ S N2) := by
  subst he
  exact PXw.scal hX N2 e1 e2 e3 e4 e5 e6 e7 e8 e9
theorem x_wont {V : VV} {m : Nat} {h : ab_H} {S : SS} (hX : PX V m h S) (ok : S_ok S)  (a b : Int32) : CX V Y_Coat_wont [.int a, .int b] m h (fun r S2 => (r, S2) = sp_wont S a (!decide (b = 0))) := by
  obtain ⟨⟨a0, ⟨n0, n1, n2, n3, n4, n5, n6, n7, n8⟩, a2⟩, p1, p2, p3, p4, p5, p6, p7⟩ := id hX
  have hn6 : N_n (S_N S) ≤ 6 := ok.1.1
  have hnT := nI_toInt (show N_n (S_N S) < 2 ^ 31 by omega)
  refine ab_C.of (L := [some (.ref 1), some (.int a), some (.int b), none]) rfl rfl (Nat.le_of_ble_eq_true rfl) (fun l => ?_)
  have hw6 : N_w (S_N S) < 64 := two_le6 hn6 ok.1.2.2.2.2.1
  refine aw_aload_n d_Coat_wont_0 rfl ?_
  refine aw_get (k := 0) d_Coat_wont_1 cl_Coat k_Coat_10 (by decide) a0 rfl ?_
  refine aw_iload_n d_Coat_wont_4 rfl ?_
  refine aw_v0i d_Coat_wont_5 k_Coat_93 ok_Night_isPerson rfl ⟨rfl, rfl⟩ cl_Night n0 (c_isPerson n0 a) rfl rfl (Nat.le_of_ble_eq_true rfl) ?_
  refine aw_if_ne (tgt := 13) d_Coat_wont_8 (by decide) (fun c8 => ?_) (fun c8 => ?_)
  · obtain ⟨j, hj, rfl⟩ := ab_rng (by omega) (ab_bl_1.mp c8)
    refine aw_aload_n d_Coat_wont_13 rfl ?_
    refine aw_get (k := 0) d_Coat_wont_14 cl_Coat k_Coat_10 (by decide) a0 rfl ?_
    refine aw_get (k := 7) d_Coat_wont_17 cl_Night k_Coat_120 (by decide) n0 rfl ?_
    refine aw_iload_n d_Coat_wont_20 rfl ?_
    refine aw_ishr d_Coat_wont_21 ?_
    refine aw_iconst (v := nI 1) d_Coat_wont_22 (by decide) ?_
    refine aw_iand d_Coat_wont_23 ?_
    refine aw_topi (fun v24 ev24 => ?_)
    refine aw_istore_n (L' := [some (.ref 1), some (.int (nI j)), some (.int b), some (.int v24)]) d_Coat_wont_24 ⟨by decide, rfl⟩ rfl ?_
    refine aw_aload_n d_Coat_wont_25 rfl ?_
    refine aw_get (k := 0) d_Coat_wont_26 cl_Coat k_Coat_10 (by decide) a0 rfl ?_
    refine aw_iload_n d_Coat_wont_29 rfl ?_
    refine aw_if_eq (tgt := 47) d_Coat_wont_30 (by decide) (fun c30 => ?_) (fun c30 => ?_)
    · refine aw_aload_n d_Coat_wont_47 rfl ?_
      refine aw_get (k := 0) d_Coat_wont_48 cl_Coat k_Coat_10 (by decide) a0 rfl ?_
      refine aw_get (k := 7) d_Coat_wont_51 cl_Night k_Coat_120 (by decide) n0 rfl ?_
      refine aw_iconst (v := nI 1) d_Coat_wont_54 (by decide) ?_
      refine aw_iload_n d_Coat_wont_55 rfl ?_
      refine aw_ishl d_Coat_wont_56 ?_
      refine aw_iconst (v := (-1)) d_Coat_wont_57 (by decide) ?_
      refine aw_ixor d_Coat_wont_58 ?_
      refine aw_iand d_Coat_wont_59 ?_
      refine aw_topi (fun v60 ev60 => ?_)
      refine aw_put (k := 7) (fs' := [.int (nI (N_n (S_N S))), .ref 3, .ref 4, .ref 5, .ref 6, .ref 7, .int (nI (pk (N_t (S_N S)))), .int v60, .int (nI (N_ns (S_N S))), .ref 8, .ref 9, .int (nI (N_ra (S_N S))), .int (nI (N_se (S_N S))), .int (N_me (S_N S)), .int (N_mi (S_N S)), .int (nI (N_fe (S_N S))), .ref 10]) d_Coat_wont_60 cl_Night k_Coat_120 (by decide) rfl ⟨rfl, rfl⟩ n0 (Nat.le_of_ble_eq_true rfl) rfl ?_
      refine aw_aload_n d_Coat_wont_63 rfl ?_
      refine aw_v0 (a := 1) d_Coat_wont_64 k_Coat_90 ok_Coat_changed rfl ⟨rfl, rfl⟩ cl_Coat a0 (c_changed (V := V) (S := S_N_ S (N_w_ (S_N S) (bt (N_w (S_N S)) j (!decide (b = 0))))) (PXw.scal2 hX (N_w_ (S_N S) (bt (N_w (S_N S)) j (!decide (b = 0)))) (by simp only [c30, decide_true, decide_false, Bool.not_true, Bool.not_false, ev60, bt_on _ hw6 j (by omega), bt_off _ hw6 j (by omega)]) rfl rfl rfl rfl rfl rfl rfl rfl rfl)) rfl rfl (Nat.le_of_ble_eq_true rfl) (fun r m2 h2 q => ?_)
      obtain ⟨rfl, rfl, hX2, hf2⟩ := q
      refine aw_iload_n d_Coat_wont_67 rfl ?_
      refine aw_ireturn d_Coat_wont_68 rfl rfl ?_
      refine ⟨_, S_N_ S (N_w_ (S_N S) (bt (N_w (S_N S)) j (!decide (b = 0)))), rfl, ?_, hX2, Nat.le_refl _, fun k g1 g2 => (hf2 k g1 g2).trans (ab_set_ne (by omega))⟩
      try subst_vars
      unfold sp_wont
      repeat' split
      all_goals first
        | rfl
        | (exfalso; (try simp only [ab_bl_0, ab_bl_1, Bool.and_eq_true, Bool.and_eq_false_iff, Bool.not_eq_true', Bool.not_eq_false', decide_eq_true_eq, decide_eq_false_iff_not] at *); (try simp only [fa_lt, fa_le, fa_eq, ir, ti0, ti1, ti2, ti3, ti4, ti6, ti9, ti20, ti64, tim1, Int32.toInt_zero, Int32.toInt_one, true_and, and_true, false_and, and_false, not_true_eq_false, not_false_eq_true, false_or, or_false, hnT] at *) <;> omega)
        | (simp only [cl_nI (show j < 2 ^ 31 by omega), bt_at _ hw6 j (by omega)])
    · refine aw_aload_n d_Coat_wont_33 rfl ?_
      refine aw_get (k := 0) d_Coat_wont_34 cl_Coat k_Coat_10 (by decide) a0 rfl ?_
      refine aw_get (k := 7) d_Coat_wont_37 cl_Night k_Coat_120 (by decide) n0 rfl ?_
      refine aw_iconst (v := nI 1) d_Coat_wont_40 (by decide) ?_
      refine aw_iload_n d_Coat_wont_41 rfl ?_
      refine aw_ishl d_Coat_wont_42 ?_
      refine aw_ior d_Coat_wont_43 ?_
      refine aw_goto (tgt := 60) d_Coat_wont_44 (by decide) ?_
      refine aw_topi (fun v60 ev60 => ?_)
      refine aw_put (k := 7) (fs' := [.int (nI (N_n (S_N S))), .ref 3, .ref 4, .ref 5, .ref 6, .ref 7, .int (nI (pk (N_t (S_N S)))), .int v60, .int (nI (N_ns (S_N S))), .ref 8, .ref 9, .int (nI (N_ra (S_N S))), .int (nI (N_se (S_N S))), .int (N_me (S_N S)), .int (N_mi (S_N S)), .int (nI (N_fe (S_N S))), .ref 10]) d_Coat_wont_60 cl_Night k_Coat_120 (by decide) rfl ⟨rfl, rfl⟩ n0 (Nat.le_of_ble_eq_true rfl) rfl ?_
      refine aw_aload_n d_Coat_wont_63 rfl ?_
      refine aw_v0 (a := 1) d_Coat_wont_64 k_Coat_90 ok_Coat_changed rfl ⟨rfl, rfl⟩ cl_Coat a0 (c_changed (V := V) (S := S_N_ S (N_w_ (S_N S) (bt (N_w (S_N S)) j (!decide (b = 0))))) (PXw.scal2 hX (N_w_ (S_N S) (bt (N_w (S_N S)) j (!decide (b = 0)))) (by simp only [c30, decide_true, decide_false, Bool.not_true, Bool.not_false, ev60, bt_on _ hw6 j (by omega), bt_off _ hw6 j (by omega)]) rfl rfl rfl rfl rfl rfl rfl rfl rfl)) rfl rfl (Nat.le_of_ble_eq_true rfl) (fun r m2 h2 q => ?_)
      obtain ⟨rfl, rfl, hX2, hf2⟩ := q
      refine aw_iload_n d_Coat_wont_67 rfl ?_
      refine aw_ireturn d_Coat_wont_68 rfl rfl ?_
      refine ⟨_, S_N_ S (N_w_ (S_N S) (bt (N_w (S_N S)) j (!decide (b = 0)))), rfl, ?_, hX2, Nat.le_refl _, fun k g1 g2 => (hf2 k g1 g2).trans (ab_set_ne (by omega))⟩
      try subst_vars
      unfold sp_wont
      repeat' split
      all_goals first
        | rfl
        | (exfalso; (try simp only [ab_bl_0, ab_bl_1, Bool.and_eq_true, Bool.and_eq_false_iff, Bool.not_eq_true', Bool.not_eq_false', decide_eq_true_eq, decide_eq_false_iff_not] at *); (try simp only [fa_lt, fa_le, fa_eq, ir, ti0, ti1, ti2, ti3, ti4, ti6, ti9, ti20, ti64, tim1, Int32.toInt_zero, Int32.toInt_one, true_and, and_true, false_and, and_false, not_true_eq_false, not_false_eq_true, false_or, or_false, hnT] at *) <;> omega)
        | (simp only [cl_nI (show j < 2 ^ 31 by omega), bt_at _ hw6 j (by omega)])
  · refine aw_iconst (v := (-1)) d_Coat_wont_11 (by decide) ?_
    refine aw_ireturn d_Coat_wont_12 rfl rfl ?_
    refine ⟨_, S, rfl, ?_, hX, Nat.le_refl _, fun k _ _ => rfl⟩
    try subst_vars
    unfold sp_wont
    repeat' split
    all_goals first
      | rfl
      | (exfalso; (try simp only [ab_bl_0, ab_bl_1, Bool.and_eq_true, Bool.and_eq_false_iff, Bool.not_eq_true', Bool.not_eq_false', decide_eq_true_eq, decide_eq_false_iff_not] at *); (try simp only [fa_lt, fa_le, fa_eq, ir, ti0, ti1, ti2, ti3, ti4, ti6, ti9, ti20, ti64, tim1, Int32.toInt_zero, Int32.toInt_one, true_and, and_true, false_and, and_false, not_true_eq_false, not_false_eq_true, false_or, or_false, hnT] at *) <;> omega)
      | (fail)
theorem cpy0 {f g : Nat → Int32} {n k : Nat} (hk : k < n) (hn : n < 2 ^ 31) : va_cpy f g (nI 0).toNatClampNeg (nI 0).toNatClampNeg (nI n).toNatClampNeg k = f k := by
  rw [nI_clamp hn, show (nI 0).toNatClampNeg = 0 from rfl]
  unfold va_cpy
  rw [if_pos (by omega)]
  congr 1
  omega
theorem rw_.any {h : ab_H} {a n : Nat} {f : Nat → Nat} (p : rw_ h a n f) : ra_ h a n := by
  obtain ⟨g, e, -⟩ := p
  exact ⟨g, e⟩
theorem NX.any {h : ab_H} {a : Nat} {N : NS} (p : NX h a N) : NXq h a := by
  obtain ⟨p0, p1, p2, p3, p4, ⟨g, p5, -⟩, p6, p7, p8⟩ := p
  exact ⟨⟨_, _, _, _, _, _, _, _, _, p0⟩, p1.any, p2.any, p3.any, p4.any, ⟨g, p5⟩, p6.any, p7.any, p8.any⟩
theorem PXk.any {h : ab_H} {K : Option NS} (p : PXk h K) : NXq h 11 := by
  cases K with
  | none => exact p
  | some K => exact NX.any p
theorem c_become_11_2 {m : Nat} {h : ab_H} {N : NS} (hn6 : N_n N ≤ 6) (hF : NX h 2 N) (hT : NXq h 11) : ab_C Y_Night_become [.ref 11, .ref 2] m h (fun r m2 h2 => r = none ∧ m2 = m ∧ NX h2 11 N ∧ ∀ k, (k < 11 ∨ 19 < k) → h2 k = h k) := by
  obtain ⟨f0, ⟨gf1, f1, af1⟩, ⟨gf2, f2, af2⟩, ⟨gf3, f3, af3⟩, ⟨gf4, f4, af4⟩, ⟨gf5, f5, af5⟩, ⟨gf6, f6, af6⟩, ⟨gf7, f7, af7⟩, ⟨gf8, f8, af8⟩⟩ := hF
  obtain ⟨⟨tn, ttb, two, tns, tra, tse, tme, tmi, tfe, t0⟩, ⟨gt1, t1⟩, ⟨gt2, t2⟩, ⟨gt3, t3⟩, ⟨gt4, t4⟩, ⟨gt5, t5⟩, ⟨gt6, t6⟩, ⟨gt7, t7⟩, ⟨gt8, t8⟩⟩ := hT
  refine ab_C.of (L := [some (.ref 11), some (.ref 2)]) rfl rfl (Nat.le_of_ble_eq_true rfl) (fun l => ?_)
  refine aw_aload_n d_Night_become_0 rfl ?_
  refine aw_aload_n d_Night_become_1 rfl ?_
  refine aw_get (k := 0) d_Night_become_2 cl_Night k_Night_55 (by decide) f0 rfl ?_
  refine aw_put (k := 0) (fs' := [.int (nI (N_n N)), .ref 12, .ref 13, .ref 14, .ref 15, .ref 16, .int ttb, .int two, .int (nI tns), .ref 17, .ref 18, .int (nI tra), .int (nI tse), .int tme, .int tmi, .int (nI tfe), .ref 19]) d_Night_become_5 cl_Night k_Night_55 (by decide) rfl ⟨rfl, rfl⟩ t0 (Nat.le_of_ble_eq_true rfl) rfl ?_
  refine aw_aload_n d_Night_become_8 rfl ?_
  refine aw_get (k := 1) d_Night_become_9 cl_Night k_Night_9 (by decide) f0 rfl ?_
  refine aw_iconst (v := nI 0) d_Night_become_12 (by decide) ?_
  refine aw_aload_n d_Night_become_13 rfl ?_
  refine aw_get (k := 1) d_Night_become_14 cl_Night k_Night_9 (by decide) rfl rfl ?_
  refine aw_iconst (v := nI 0) d_Night_become_17 (by decide) ?_
  refine aw_bipush (v := nI 6) d_Night_become_18 (by decide) ?_
  refine aw_copy d_Night_become_20 k_Night_58 ⟨by decide, Nat.le_of_ble_eq_true rfl⟩ f1 t1 (by decide) (by decide) (by decide) (by decide) (by decide) ?_
  refine aw_aload_n d_Night_become_23 rfl ?_
  refine aw_get (k := 2) d_Night_become_24 cl_Night k_Night_15 (by decide) f0 rfl ?_
  refine aw_iconst (v := nI 0) d_Night_become_27 (by decide) ?_
  refine aw_aload_n d_Night_become_28 rfl ?_
  refine aw_get (k := 2) d_Night_become_29 cl_Night k_Night_15 (by decide) rfl rfl ?_
  refine aw_iconst (v := nI 0) d_Night_become_32 (by decide) ?_
  refine aw_bipush (v := nI 6) d_Night_become_33 (by decide) ?_
  refine aw_copy d_Night_become_35 k_Night_58 ⟨by decide, Nat.le_of_ble_eq_true rfl⟩ f2 t2 (by decide) (by decide) (by decide) (by decide) (by decide) ?_
  refine aw_aload_n d_Night_become_38 rfl ?_
  refine aw_get (k := 3) d_Night_become_39 cl_Night k_Night_18 (by decide) f0 rfl ?_
  refine aw_iconst (v := nI 0) d_Night_become_42 (by decide) ?_
  refine aw_aload_n d_Night_become_43 rfl ?_
  refine aw_get (k := 3) d_Night_become_44 cl_Night k_Night_18 (by decide) rfl rfl ?_
  refine aw_iconst (v := nI 0) d_Night_become_47 (by decide) ?_
  refine aw_bipush (v := nI 6) d_Night_become_48 (by decide) ?_
  refine aw_copy d_Night_become_50 k_Night_58 ⟨by decide, Nat.le_of_ble_eq_true rfl⟩ f3 t3 (by decide) (by decide) (by decide) (by decide) (by decide) ?_
  refine aw_aload_n d_Night_become_53 rfl ?_
  refine aw_get (k := 4) d_Night_become_54 cl_Night k_Night_21 (by decide) f0 rfl ?_
  refine aw_iconst (v := nI 0) d_Night_become_57 (by decide) ?_
  refine aw_aload_n d_Night_become_58 rfl ?_
  refine aw_get (k := 4) d_Night_become_59 cl_Night k_Night_21 (by decide) rfl rfl ?_
  refine aw_iconst (v := nI 0) d_Night_become_62 (by decide) ?_
  refine aw_bipush (v := nI 36) d_Night_become_63 (by decide) ?_
  refine aw_copy d_Night_become_65 k_Night_58 ⟨by decide, Nat.le_of_ble_eq_true rfl⟩ f4 t4 (by decide) (by decide) (by decide) (by decide) (by decide) ?_
  refine aw_aload_n d_Night_become_68 rfl ?_
  refine aw_get (k := 5) d_Night_become_69 cl_Night k_Night_24 (by decide) f0 rfl ?_
  refine aw_iconst (v := nI 0) d_Night_become_72 (by decide) ?_
  refine aw_aload_n d_Night_become_73 rfl ?_
  refine aw_get (k := 5) d_Night_become_74 cl_Night k_Night_24 (by decide) rfl rfl ?_
  refine aw_iconst (v := nI 0) d_Night_become_77 (by decide) ?_
  refine aw_bipush (v := nI 6) d_Night_become_78 (by decide) ?_
  refine aw_copy d_Night_become_80 k_Night_58 ⟨by decide, Nat.le_of_ble_eq_true rfl⟩ f5 t5 (by decide) (by decide) (by decide) (by decide) (by decide) ?_
  refine aw_aload_n d_Night_become_83 rfl ?_
  refine aw_aload_n d_Night_become_84 rfl ?_
  refine aw_get (k := 6) d_Night_become_85 cl_Night k_Night_30 (by decide) f0 rfl ?_
  refine aw_put (k := 6) (fs' := [.int (nI (N_n N)), .ref 12, .ref 13, .ref 14, .ref 15, .ref 16, .int (nI (pk (N_t N))), .int two, .int (nI tns), .ref 17, .ref 18, .int (nI tra), .int (nI tse), .int tme, .int tmi, .int (nI tfe), .ref 19]) d_Night_become_88 cl_Night k_Night_30 (by decide) rfl ⟨rfl, rfl⟩ rfl (Nat.le_of_ble_eq_true rfl) rfl ?_
  refine aw_aload_n d_Night_become_91 rfl ?_
  refine aw_aload_n d_Night_become_92 rfl ?_
  refine aw_get (k := 7) d_Night_become_93 cl_Night k_Night_64 (by decide) f0 rfl ?_
  refine aw_put (k := 7) (fs' := [.int (nI (N_n N)), .ref 12, .ref 13, .ref 14, .ref 15, .ref 16, .int (nI (pk (N_t N))), .int (nI (N_w N)), .int (nI tns), .ref 17, .ref 18, .int (nI tra), .int (nI tse), .int tme, .int tmi, .int (nI tfe), .ref 19]) d_Night_become_96 cl_Night k_Night_64 (by decide) rfl ⟨rfl, rfl⟩ rfl (Nat.le_of_ble_eq_true rfl) rfl ?_
  refine aw_aload_n d_Night_become_99 rfl ?_
  refine aw_aload_n d_Night_become_100 rfl ?_
  refine aw_get (k := 8) d_Night_become_101 cl_Night k_Night_67 (by decide) f0 rfl ?_
  refine aw_put (k := 8) (fs' := [.int (nI (N_n N)), .ref 12, .ref 13, .ref 14, .ref 15, .ref 16, .int (nI (pk (N_t N))), .int (nI (N_w N)), .int (nI (N_ns N)), .ref 17, .ref 18, .int (nI tra), .int (nI tse), .int tme, .int tmi, .int (nI tfe), .ref 19]) d_Night_become_104 cl_Night k_Night_67 (by decide) rfl ⟨rfl, rfl⟩ rfl (Nat.le_of_ble_eq_true rfl) rfl ?_
  refine aw_aload_n d_Night_become_107 rfl ?_
  refine aw_get (k := 9) d_Night_become_108 cl_Night k_Night_34 (by decide) f0 rfl ?_
  refine aw_iconst (v := nI 0) d_Night_become_111 (by decide) ?_
  refine aw_aload_n d_Night_become_112 rfl ?_
  refine aw_get (k := 9) d_Night_become_113 cl_Night k_Night_34 (by decide) rfl rfl ?_
  refine aw_iconst (v := nI 0) d_Night_become_116 (by decide) ?_
  refine aw_iconst (v := nI 4) d_Night_become_117 (by decide) ?_
  refine aw_copy d_Night_become_118 k_Night_58 ⟨by decide, Nat.le_of_ble_eq_true rfl⟩ f6 t6 (by decide) (by decide) (by decide) (by decide) (by decide) ?_
  refine aw_aload_n d_Night_become_121 rfl ?_
  refine aw_get (k := 10) d_Night_become_122 cl_Night k_Night_37 (by decide) f0 rfl ?_
  refine aw_iconst (v := nI 0) d_Night_become_125 (by decide) ?_
  refine aw_aload_n d_Night_become_126 rfl ?_
  refine aw_get (k := 10) d_Night_become_127 cl_Night k_Night_37 (by decide) rfl rfl ?_
  refine aw_iconst (v := nI 0) d_Night_become_130 (by decide) ?_
  refine aw_iconst (v := nI 4) d_Night_become_131 (by decide) ?_
  refine aw_copy d_Night_become_132 k_Night_58 ⟨by decide, Nat.le_of_ble_eq_true rfl⟩ f7 t7 (by decide) (by decide) (by decide) (by decide) (by decide) ?_
  refine aw_aload_n d_Night_become_135 rfl ?_
  refine aw_aload_n d_Night_become_136 rfl ?_
  refine aw_get (k := 11) d_Night_become_137 cl_Night k_Night_40 (by decide) f0 rfl ?_
  refine aw_put (k := 11) (fs' := [.int (nI (N_n N)), .ref 12, .ref 13, .ref 14, .ref 15, .ref 16, .int (nI (pk (N_t N))), .int (nI (N_w N)), .int (nI (N_ns N)), .ref 17, .ref 18, .int (nI (N_ra N)), .int (nI tse), .int tme, .int tmi, .int (nI tfe), .ref 19]) d_Night_become_140 cl_Night k_Night_40 (by decide) rfl ⟨rfl, rfl⟩ rfl (Nat.le_of_ble_eq_true rfl) rfl ?_
  refine aw_aload_n d_Night_become_143 rfl ?_
  refine aw_aload_n d_Night_become_144 rfl ?_
  refine aw_get (k := 12) d_Night_become_145 cl_Night k_Night_43 (by decide) f0 rfl ?_
  refine aw_put (k := 12) (fs' := [.int (nI (N_n N)), .ref 12, .ref 13, .ref 14, .ref 15, .ref 16, .int (nI (pk (N_t N))), .int (nI (N_w N)), .int (nI (N_ns N)), .ref 17, .ref 18, .int (nI (N_ra N)), .int (nI (N_se N)), .int tme, .int tmi, .int (nI tfe), .ref 19]) d_Night_become_148 cl_Night k_Night_43 (by decide) rfl ⟨rfl, rfl⟩ rfl (Nat.le_of_ble_eq_true rfl) rfl ?_
  refine aw_aload_n d_Night_become_151 rfl ?_
  refine aw_aload_n d_Night_become_152 rfl ?_
  refine aw_get (k := 13) d_Night_become_153 cl_Night k_Night_70 (by decide) f0 rfl ?_
  refine aw_put (k := 13) (fs' := [.int (nI (N_n N)), .ref 12, .ref 13, .ref 14, .ref 15, .ref 16, .int (nI (pk (N_t N))), .int (nI (N_w N)), .int (nI (N_ns N)), .ref 17, .ref 18, .int (nI (N_ra N)), .int (nI (N_se N)), .int (N_me N), .int tmi, .int (nI tfe), .ref 19]) d_Night_become_156 cl_Night k_Night_70 (by decide) rfl ⟨rfl, rfl⟩ rfl (Nat.le_of_ble_eq_true rfl) rfl ?_
  refine aw_aload_n d_Night_become_159 rfl ?_
  refine aw_aload_n d_Night_become_160 rfl ?_
  refine aw_get (k := 14) d_Night_become_161 cl_Night k_Night_73 (by decide) f0 rfl ?_
  refine aw_put (k := 14) (fs' := [.int (nI (N_n N)), .ref 12, .ref 13, .ref 14, .ref 15, .ref 16, .int (nI (pk (N_t N))), .int (nI (N_w N)), .int (nI (N_ns N)), .ref 17, .ref 18, .int (nI (N_ra N)), .int (nI (N_se N)), .int (N_me N), .int (N_mi N), .int (nI tfe), .ref 19]) d_Night_become_164 cl_Night k_Night_73 (by decide) rfl ⟨rfl, rfl⟩ rfl (Nat.le_of_ble_eq_true rfl) rfl ?_
  refine aw_aload_n d_Night_become_167 rfl ?_
  refine aw_aload_n d_Night_become_168 rfl ?_
  refine aw_get (k := 15) d_Night_become_169 cl_Night k_Night_76 (by decide) f0 rfl ?_
  refine aw_put (k := 15) (fs' := [.int (nI (N_n N)), .ref 12, .ref 13, .ref 14, .ref 15, .ref 16, .int (nI (pk (N_t N))), .int (nI (N_w N)), .int (nI (N_ns N)), .ref 17, .ref 18, .int (nI (N_ra N)), .int (nI (N_se N)), .int (N_me N), .int (N_mi N), .int (nI (N_fe N)), .ref 19]) d_Night_become_172 cl_Night k_Night_76 (by decide) rfl ⟨rfl, rfl⟩ rfl (Nat.le_of_ble_eq_true rfl) rfl ?_
  refine aw_aload_n d_Night_become_175 rfl ?_
  refine aw_get (k := 16) d_Night_become_176 cl_Night k_Night_46 (by decide) f0 rfl ?_
  refine aw_iconst (v := nI 0) d_Night_become_179 (by decide) ?_
  refine aw_aload_n d_Night_become_180 rfl ?_
  refine aw_get (k := 16) d_Night_become_181 cl_Night k_Night_46 (by decide) rfl rfl ?_
  refine aw_iconst (v := nI 0) d_Night_become_184 (by decide) ?_
  refine aw_bipush (v := nI 6) d_Night_become_185 (by decide) ?_
  refine aw_copy d_Night_become_187 k_Night_58 ⟨by decide, Nat.le_of_ble_eq_true rfl⟩ f8 t8 (by decide) (by decide) (by decide) (by decide) (by decide) ?_
  refine aw_return d_Night_become_190 rfl ?_
  refine ⟨rfl, rfl, ⟨rfl, ⟨_, rfl, fun k hk => (cpy0 hk (by decide)).trans (af1 k hk)⟩, ⟨_, rfl, fun k hk => (cpy0 hk (by decide)).trans (af2 k hk)⟩, ⟨_, rfl, fun k hk => (cpy0 hk (by decide)).trans (af3 k hk)⟩, ⟨_, rfl, fun k hk => (cpy0 hk (by decide)).trans (af4 k hk)⟩, ⟨_, rfl, fun k hk => by rw [cpy0 (Nat.lt_of_lt_of_le hk hn6) (by decide)]; exact af5 k hk⟩, ⟨_, rfl, fun k hk => (cpy0 hk (by decide)).trans (af6 k hk)⟩, ⟨_, rfl, fun k hk => (cpy0 hk (by decide)).trans (af7 k hk)⟩, ⟨_, rfl, fun k hk => (cpy0 hk (by decide)).trans (af8 k hk)⟩⟩, fun k hk => ?_⟩
  simp only [ab_set]
  repeat rw [if_neg (by omega)]
theorem c_become_2_11 {m : Nat} {h : ab_H} {N : NS} (hn6 : N_n N ≤ 6) (hF : NX h 11 N) (hT : NXq h 2) : ab_C Y_Night_become [.ref 2, .ref 11] m h (fun r m2 h2 => r = none ∧ m2 = m ∧ NX h2 2 N ∧ ∀ k, (k < 2 ∨ 10 < k) → h2 k = h k) := by
  obtain ⟨f0, ⟨gf1, f1, af1⟩, ⟨gf2, f2, af2⟩, ⟨gf3, f3, af3⟩, ⟨gf4, f4, af4⟩, ⟨gf5, f5, af5⟩, ⟨gf6, f6, af6⟩, ⟨gf7, f7, af7⟩, ⟨gf8, f8, af8⟩⟩ := hF
  obtain ⟨⟨tn, ttb, two, tns, tra, tse, tme, tmi, tfe, t0⟩, ⟨gt1, t1⟩, ⟨gt2, t2⟩, ⟨gt3, t3⟩, ⟨gt4, t4⟩, ⟨gt5, t5⟩, ⟨gt6, t6⟩, ⟨gt7, t7⟩, ⟨gt8, t8⟩⟩ := hT
  refine ab_C.of (L := [some (.ref 2), some (.ref 11)]) rfl rfl (Nat.le_of_ble_eq_true rfl) (fun l => ?_)
  refine aw_aload_n d_Night_become_0 rfl ?_
  refine aw_aload_n d_Night_become_1 rfl ?_
  refine aw_get (k := 0) d_Night_become_2 cl_Night k_Night_55 (by decide) f0 rfl ?_
  refine aw_put (k := 0) (fs' := [.int (nI (N_n N)), .ref 3, .ref 4, .ref 5, .ref 6, .ref 7, .int ttb, .int two, .int (nI tns), .ref 8, .ref 9, .int (nI tra), .int (nI tse), .int tme, .int tmi, .int (nI tfe), .ref 10]) d_Night_become_5 cl_Night k_Night_55 (by decide) rfl ⟨rfl, rfl⟩ t0 (Nat.le_of_ble_eq_true rfl) rfl ?_
  refine aw_aload_n d_Night_become_8 rfl ?_
  refine aw_get (k := 1) d_Night_become_9 cl_Night k_Night_9 (by decide) f0 rfl ?_
  refine aw_iconst (v := nI 0) d_Night_become_12 (by decide) ?_
  refine aw_aload_n d_Night_become_13 rfl ?_
  refine aw_get (k := 1) d_Night_become_14 cl_Night k_Night_9 (by decide) rfl rfl ?_
  refine aw_iconst (v := nI 0) d_Night_become_17 (by decide) ?_
  refine aw_bipush (v := nI 6) d_Night_become_18 (by decide) ?_
  refine aw_copy d_Night_become_20 k_Night_58 ⟨by decide, Nat.le_of_ble_eq_true rfl⟩ f1 t1 (by decide) (by decide) (by decide) (by decide) (by decide) ?_
  refine aw_aload_n d_Night_become_23 rfl ?_
  refine aw_get (k := 2) d_Night_become_24 cl_Night k_Night_15 (by decide) f0 rfl ?_
  refine aw_iconst (v := nI 0) d_Night_become_27 (by decide) ?_
  refine aw_aload_n d_Night_become_28 rfl ?_
  refine aw_get (k := 2) d_Night_become_29 cl_Night k_Night_15 (by decide) rfl rfl ?_
  refine aw_iconst (v := nI 0) d_Night_become_32 (by decide) ?_
  refine aw_bipush (v := nI 6) d_Night_become_33 (by decide) ?_
  refine aw_copy d_Night_become_35 k_Night_58 ⟨by decide, Nat.le_of_ble_eq_true rfl⟩ f2 t2 (by decide) (by decide) (by decide) (by decide) (by decide) ?_
  refine aw_aload_n d_Night_become_38 rfl ?_
  refine aw_get (k := 3) d_Night_become_39 cl_Night k_Night_18 (by decide) f0 rfl ?_
  refine aw_iconst (v := nI 0) d_Night_become_42 (by decide) ?_
  refine aw_aload_n d_Night_become_43 rfl ?_
  refine aw_get (k := 3) d_Night_become_44 cl_Night k_Night_18 (by decide) rfl rfl ?_
  refine aw_iconst (v := nI 0) d_Night_become_47 (by decide) ?_
  refine aw_bipush (v := nI 6) d_Night_become_48 (by decide) ?_
  refine aw_copy d_Night_become_50 k_Night_58 ⟨by decide, Nat.le_of_ble_eq_true rfl⟩ f3 t3 (by decide) (by decide) (by decide) (by decide) (by decide) ?_
  refine aw_aload_n d_Night_become_53 rfl ?_
  refine aw_get (k := 4) d_Night_become_54 cl_Night k_Night_21 (by decide) f0 rfl ?_
  refine aw_iconst (v := nI 0) d_Night_become_57 (by decide) ?_
  refine aw_aload_n d_Night_become_58 rfl ?_
  refine aw_get (k := 4) d_Night_become_59 cl_Night k_Night_21 (by decide) rfl rfl ?_
  refine aw_iconst (v := nI 0) d_Night_become_62 (by decide) ?_
  refine aw_bipush (v := nI 36) d_Night_become_63 (by decide) ?_
  refine aw_copy d_Night_become_65 k_Night_58 ⟨by decide, Nat.le_of_ble_eq_true rfl⟩ f4 t4 (by decide) (by decide) (by decide) (by decide) (by decide) ?_
  refine aw_aload_n d_Night_become_68 rfl ?_
  refine aw_get (k := 5) d_Night_become_69 cl_Night k_Night_24 (by decide) f0 rfl ?_
  refine aw_iconst (v := nI 0) d_Night_become_72 (by decide) ?_
  refine aw_aload_n d_Night_become_73 rfl ?_
  refine aw_get (k := 5) d_Night_become_74 cl_Night k_Night_24 (by decide) rfl rfl ?_
  refine aw_iconst (v := nI 0) d_Night_become_77 (by decide) ?_
  refine aw_bipush (v := nI 6) d_Night_become_78 (by decide) ?_
  refine aw_copy d_Night_become_80 k_Night_58 ⟨by decide, Nat.le_of_ble_eq_true rfl⟩ f5 t5 (by decide) (by decide) (by decide) (by decide) (by decide) ?_
  refine aw_aload_n d_Night_become_83 rfl ?_
  refine aw_aload_n d_Night_become_84 rfl ?_
  refine aw_get (k := 6) d_Night_become_85 cl_Night k_Night_30 (by decide) f0 rfl ?_
  refine aw_put (k := 6) (fs' := [.int (nI (N_n N)), .ref 3, .ref 4, .ref 5, .ref 6, .ref 7, .int (nI (pk (N_t N))), .int two, .int (nI tns), .ref 8, .ref 9, .int (nI tra), .int (nI tse), .int tme, .int tmi, .int (nI tfe), .ref 10]) d_Night_become_88 cl_Night k_Night_30 (by decide) rfl ⟨rfl, rfl⟩ rfl (Nat.le_of_ble_eq_true rfl) rfl ?_
  refine aw_aload_n d_Night_become_91 rfl ?_
  refine aw_aload_n d_Night_become_92 rfl ?_
  refine aw_get (k := 7) d_Night_become_93 cl_Night k_Night_64 (by decide) f0 rfl ?_
  refine aw_put (k := 7) (fs' := [.int (nI (N_n N)), .ref 3, .ref 4, .ref 5, .ref 6, .ref 7, .int (nI (pk (N_t N))), .int (nI (N_w N)), .int (nI tns), .ref 8, .ref 9, .int (nI tra), .int (nI tse), .int tme, .int tmi, .int (nI tfe), .ref 10]) d_Night_become_96 cl_Night k_Night_64 (by decide) rfl ⟨rfl, rfl⟩ rfl (Nat.le_of_ble_eq_true rfl) rfl ?_
  refine aw_aload_n d_Night_become_99 rfl ?_
  refine aw_aload_n d_Night_become_100 rfl ?_
  refine aw_get (k := 8) d_Night_become_101 cl_Night k_Night_67 (by decide) f0 rfl ?_
  refine aw_put (k := 8) (fs' := [.int (nI (N_n N)), .ref 3, .ref 4, .ref 5, .ref 6, .ref 7, .int (nI (pk (N_t N))), .int (nI (N_w N)), .int (nI (N_ns N)), .ref 8, .ref 9, .int (nI tra), .int (nI tse), .int tme, .int tmi, .int (nI tfe), .ref 10]) d_Night_become_104 cl_Night k_Night_67 (by decide) rfl ⟨rfl, rfl⟩ rfl (Nat.le_of_ble_eq_true rfl) rfl ?_
  refine aw_aload_n d_Night_become_107 rfl ?_
  refine aw_get (k := 9) d_Night_become_108 cl_Night k_Night_34 (by decide) f0 rfl ?_
  refine aw_iconst (v := nI 0) d_Night_become_111 (by decide) ?_
  refine aw_aload_n d_Night_become_112 rfl ?_
  refine aw_get (k := 9) d_Night_become_113 cl_Night k_Night_34 (by decide) rfl rfl ?_
  refine aw_iconst (v := nI 0) d_Night_become_116 (by decide) ?_
  refine aw_iconst (v := nI 4) d_Night_become_117 (by decide) ?_
  refine aw_copy d_Night_become_118 k_Night_58 ⟨by decide, Nat.le_of_ble_eq_true rfl⟩ f6 t6 (by decide) (by decide) (by decide) (by decide) (by decide) ?_
  refine aw_aload_n d_Night_become_121 rfl ?_
  refine aw_get (k := 10) d_Night_become_122 cl_Night k_Night_37 (by decide) f0 rfl ?_
  refine aw_iconst (v := nI 0) d_Night_become_125 (by decide) ?_
  refine aw_aload_n d_Night_become_126 rfl ?_
  refine aw_get (k := 10) d_Night_become_127 cl_Night k_Night_37 (by decide) rfl rfl ?_
  refine aw_iconst (v := nI 0) d_Night_become_130 (by decide) ?_
  refine aw_iconst (v := nI 4) d_Night_become_131 (by decide) ?_
  refine aw_copy d_Night_become_132 k_Night_58 ⟨by decide, Nat.le_of_ble_eq_true rfl⟩ f7 t7 (by decide) (by decide) (by decide) (by decide) (by decide) ?_
  refine aw_aload_n d_Night_become_135 rfl ?_
  refine aw_aload_n d_Night_become_136 rfl ?_
  refine aw_get (k := 11) d_Night_become_137 cl_Night k_Night_40 (by decide) f0 rfl ?_
  refine aw_put (k := 11) (fs' := [.int (nI (N_n N)), .ref 3, .ref 4, .ref 5, .ref 6, .ref 7, .int (nI (pk (N_t N))), .int (nI (N_w N)), .int (nI (N_ns N)), .ref 8, .ref 9, .int (nI (N_ra N)), .int (nI tse), .int tme, .int tmi, .int (nI tfe), .ref 10]) d_Night_become_140 cl_Night k_Night_40 (by decide) rfl ⟨rfl, rfl⟩ rfl (Nat.le_of_ble_eq_true rfl) rfl ?_
  refine aw_aload_n d_Night_become_143 rfl ?_
  refine aw_aload_n d_Night_become_144 rfl ?_
  refine aw_get (k := 12) d_Night_become_145 cl_Night k_Night_43 (by decide) f0 rfl ?_
  refine aw_put (k := 12) (fs' := [.int (nI (N_n N)), .ref 3, .ref 4, .ref 5, .ref 6, .ref 7, .int (nI (pk (N_t N))), .int (nI (N_w N)), .int (nI (N_ns N)), .ref 8, .ref 9, .int (nI (N_ra N)), .int (nI (N_se N)), .int tme, .int tmi, .int (nI tfe), .ref 10]) d_Night_become_148 cl_Night k_Night_43 (by decide) rfl ⟨rfl, rfl⟩ rfl (Nat.le_of_ble_eq_true rfl) rfl ?_
  refine aw_aload_n d_Night_become_151 rfl ?_
  refine aw_aload_n d_Night_become_152 rfl ?_
  refine aw_get (k := 13) d_Night_become_153 cl_Night k_Night_70 (by decide) f0 rfl ?_
  refine aw_put (k := 13) (fs' := [.int (nI (N_n N)), .ref 3, .ref 4, .ref 5, .ref 6, .ref 7, .int (nI (pk (N_t N))), .int (nI (N_w N)), .int (nI (N_ns N)), .ref 8, .ref 9, .int (nI (N_ra N)), .int (nI (N_se N)), .int (N_me N), .int tmi, .int (nI tfe), .ref 10]) d_Night_become_156 cl_Night k_Night_70 (by decide) rfl ⟨rfl, rfl⟩ rfl (Nat.le_of_ble_eq_true rfl) rfl ?_
  refine aw_aload_n d_Night_become_159 rfl ?_
  refine aw_aload_n d_Night_become_160 rfl ?_
  refine aw_get (k := 14) d_Night_become_161 cl_Night k_Night_73 (by decide) f0 rfl ?_
  refine aw_put (k := 14) (fs' := [.int (nI (N_n N)), .ref 3, .ref 4, .ref 5, .ref 6, .ref 7, .int (nI (pk (N_t N))), .int (nI (N_w N)), .int (nI (N_ns N)), .ref 8, .ref 9, .int (nI (N_ra N)), .int (nI (N_se N)), .int (N_me N), .int (N_mi N), .int (nI tfe), .ref 10]) d_Night_become_164 cl_Night k_Night_73 (by decide) rfl ⟨rfl, rfl⟩ rfl (Nat.le_of_ble_eq_true rfl) rfl ?_
  refine aw_aload_n d_Night_become_167 rfl ?_
  refine aw_aload_n d_Night_become_168 rfl ?_
  refine aw_get (k := 15) d_Night_become_169 cl_Night k_Night_76 (by decide) f0 rfl ?_
  refine aw_put (k := 15) (fs' := [.int (nI (N_n N)), .ref 3, .ref 4, .ref 5, .ref 6, .ref 7, .int (nI (pk (N_t N))), .int (nI (N_w N)), .int (nI (N_ns N)), .ref 8, .ref 9, .int (nI (N_ra N)), .int (nI (N_se N)), .int (N_me N), .int (N_mi N), .int (nI (N_fe N)), .ref 10]) d_Night_become_172 cl_Night k_Night_76 (by decide) rfl ⟨rfl, rfl⟩ rfl (Nat.le_of_ble_eq_true rfl) rfl ?_
  refine aw_aload_n d_Night_become_175 rfl ?_
  refine aw_get (k := 16) d_Night_become_176 cl_Night k_Night_46 (by decide) f0 rfl ?_
  refine aw_iconst (v := nI 0) d_Night_become_179 (by decide) ?_
  refine aw_aload_n d_Night_become_180 rfl ?_
  refine aw_get (k := 16) d_Night_become_181 cl_Night k_Night_46 (by decide) rfl rfl ?_
  refine aw_iconst (v := nI 0) d_Night_become_184 (by decide) ?_
  refine aw_bipush (v := nI 6) d_Night_become_185 (by decide) ?_
  refine aw_copy d_Night_become_187 k_Night_58 ⟨by decide, Nat.le_of_ble_eq_true rfl⟩ f8 t8 (by decide) (by decide) (by decide) (by decide) (by decide) ?_
  refine aw_return d_Night_become_190 rfl ?_
  refine ⟨rfl, rfl, ⟨rfl, ⟨_, rfl, fun k hk => (cpy0 hk (by decide)).trans (af1 k hk)⟩, ⟨_, rfl, fun k hk => (cpy0 hk (by decide)).trans (af2 k hk)⟩, ⟨_, rfl, fun k hk => (cpy0 hk (by decide)).trans (af3 k hk)⟩, ⟨_, rfl, fun k hk => (cpy0 hk (by decide)).trans (af4 k hk)⟩, ⟨_, rfl, fun k hk => by rw [cpy0 (Nat.lt_of_lt_of_le hk hn6) (by decide)]; exact af5 k hk⟩, ⟨_, rfl, fun k hk => (cpy0 hk (by decide)).trans (af6 k hk)⟩, ⟨_, rfl, fun k hk => (cpy0 hk (by decide)).trans (af7 k hk)⟩, ⟨_, rfl, fun k hk => (cpy0 hk (by decide)).trans (af8 k hk)⟩⟩, fun k hk => ?_⟩
  simp only [ab_set]
  repeat rw [if_neg (by omega)]
