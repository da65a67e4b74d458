/-- the stores' truth doesn't hang on what isn't asked there -/
def V_ok (V : VV) : Prop := (∀ (N : NS) v, V.1 (N_mk_ N v) = V.1 N ∧ V.2.1 (N_mk_ N v) = V.2.1 N ∧ V.2.2.1 (N_mk_ N v) = V.2.2.1 N ∧ V.2.2.2.2 (N_mk_ N v) = V.2.2.2.2 N) ∧ (∀ (N : NS) v, V.1 (N_lk_ N v) = V.1 N ∧ V.2.1 (N_lk_ N v) = V.2.1 N ∧ V.2.2.1 (N_lk_ N v) = V.2.2.1 N ∧ V.2.2.2.2 (N_lk_ N v) = V.2.2.2.2 N) ∧ (∀ (N : NS) v, V.1 (N_ma_ N v) = V.1 N ∧ V.2.1 (N_ma_ N v) = V.2.1 N ∧ V.2.2.1 (N_ma_ N v) = V.2.2.1 N ∧ V.2.2.2.2 (N_ma_ N v) = V.2.2.2.2 N) ∧ (∀ (N : NS) t me mi, V.2.2.2.2 (N_t_ (N_me_ (N_mi_ N mi) me) t) = V.2.2.2.2 N) ∧ (∀ (N : NS) fe ff, V.2.2.2.2 (N_fe_ (N_ff_ N ff) fe) = V.2.2.2.2 N)
theorem PXp.cg {V : VV} {h : ab_H} {N N2 : NS} (e : V.1 N2 = V.1 N) (p : PXp V h N) : PXp V h N2 := by unfold PXp; rw [e]; exact p
theorem PXd.cg {V : VV} {h : ab_H} {N N2 : NS} (e : V.2.1 N2 = V.2.1 N) (p : PXd V h N) : PXd V h N2 := by unfold PXd; rw [e]; exact p
theorem PXr.cg {V : VV} {h : ab_H} {N N2 : NS} (e : V.2.2.1 N2 = V.2.2.1 N) (p : PXr V h N) : PXr V h N2 := by unfold PXr; rw [e]; exact p
theorem rw_.up {h : ab_H} {a n : Nat} {f : Nat → Nat} {g : Nat → Int32} (ag : ∀ k, k < n → g k = nI (f k)) (j v : Nat) : rw_ (ab_set h a (.inl (n, upd g j (nI v)))) a n (ud f j v) := by
  refine ⟨_, ab_set_self _ _ _, fun k hk => ?_⟩
  by_cases e : k = j
  · subst e; rw [pk_us, ud_s]
  · rw [pk_un e, ud_n e]; exact ag k hk
theorem rw_.up2 {h : ab_H} {a n : Nat} {f : Nat → Nat} {g : Nat → Int32} {j v : Nat} (he : h a = .inl (n, upd g j (nI v))) (ag : ∀ k, k < n → g k = nI (f k)) : rw_ h a n (ud f j v) := by
  refine ⟨_, he, fun k hk => ?_⟩
  by_cases e : k = j
  · subst e; rw [pk_us, ud_s]
  · rw [pk_un e, ud_n e]; exact ag k hk
theorem ab_bl_1 {b : Bool} : ¬ ab_bl b = 0 ↔ b = true := by cases b <;> decide
theorem ab_rng {p : Int32} {n : Nat} (hn : n < 2 ^ 31) (h : (!decide (p < 0) && !decide (nI n ≤ p)) = true) : ∃ j, j < n ∧ p = nI j := by
  simp only [Bool.and_eq_true, Bool.not_eq_true', decide_eq_false_iff_not] at h
  obtain ⟨j, h1, h2⟩ := nI_of h.1
  subst h2
  exact ⟨j, Nat.not_le.mp fun q => h.2 (nI_le q h1), rfl⟩
theorem c_isPerson {m : Nat} {h : ab_H} {n : Nat} {tb wo : Int32} {ns ra se : Nat} {me mi : Int32} {fe : Nat} (hN : h 2 = oN 2 n tb wo ns ra se me mi fe) (p : Int32) : ab_D Y_Night_isPerson [.ref 2, .int p] m h (some (.int (ab_bl (!decide (p < 0) && !decide (nI n ≤ p))))) m (h) := by
  refine ab_C.of (L := [some (.ref 2), some (.int p)]) rfl rfl (Nat.le_of_ble_eq_true rfl) (fun l => ?_)
  refine aw_iload_n d_Night_isPerson_0 rfl ?_
  refine aw_if_lt (tgt := 16) d_Night_isPerson_1 (by decide) (fun c1 => ?_) (fun c1 => ?_)
  · refine aw_iconst (v := nI 0) d_Night_isPerson_16 (by decide) ?_
    refine aw_ireturn d_Night_isPerson_17 rfl (by decide) ?_
    exact ⟨by simp [ab_bl, *], rfl, rfl⟩
  · refine aw_iload_n d_Night_isPerson_4 rfl ?_
    refine aw_aload_n d_Night_isPerson_5 rfl ?_
    refine aw_get (k := 0) d_Night_isPerson_6 cl_Night k_Night_55 (by decide) hN rfl ?_
    refine aw_icmp_ge (tgt := 16) d_Night_isPerson_9 (by decide) (fun c9 => ?_) (fun c9 => ?_)
    · refine aw_iconst (v := nI 0) d_Night_isPerson_16 (by decide) ?_
      refine aw_ireturn d_Night_isPerson_17 rfl (by decide) ?_
      exact ⟨by simp [ab_bl, *], rfl, rfl⟩
    · refine aw_iconst (v := nI 1) d_Night_isPerson_12 (by decide) ?_
      refine aw_goto (tgt := 17) d_Night_isPerson_13 (by decide) ?_
      refine aw_ireturn d_Night_isPerson_17 rfl (by decide) ?_
      exact ⟨by simp [ab_bl, *], rfl, rfl⟩
theorem c_all {m : Nat} {h : ab_H} {n : Nat} {tb wo : Int32} {ns ra se : Nat} {me mi : Int32} {fe : Nat} (hN : h 2 = oN 2 n tb wo ns ra se me mi fe) : ab_D Y_Night_all [.ref 2] m h (some (.int (nI 1 <<< (nI n &&& 31) - nI 1))) m (h) := by
  refine ab_C.of (L := [some (.ref 2)]) rfl rfl (Nat.le_of_ble_eq_true rfl) (fun l => ?_)
  refine aw_iconst (v := nI 1) d_Night_all_0 (by decide) ?_
  refine aw_aload_n d_Night_all_1 rfl ?_
  refine aw_get (k := 0) d_Night_all_2 cl_Night k_Night_55 (by decide) hN rfl ?_
  refine aw_ishl d_Night_all_5 ?_
  refine aw_iconst (v := nI 1) d_Night_all_6 (by decide) ?_
  refine aw_isub d_Night_all_7 ?_
  refine aw_ireturn d_Night_all_8 rfl rfl ?_
  exact ⟨rfl, rfl, rfl⟩
theorem c_liking {m : Nat} {h : ab_H} {n : Nat} {tb wo : Int32} {ns ra se : Nat} {me mi : Int32} {fe : Nat} (hN : h 2 = oN 2 n tb wo ns ra se me mi fe) {g : Nat → Int32} (hl : h 6 = .inl (36, g)) (a c : Nat) (ha : a < 6) (hc : c < 6) : ab_D Y_Night_liking [.ref 2, .int (nI a), .int (nI c)] m h (some (.int (g (6 * a + c)))) m (h) := by
  refine ab_C.of (L := [some (.ref 2), some (.int (nI a)), some (.int (nI c))]) rfl rfl (Nat.le_of_ble_eq_true rfl) (fun l => ?_)
  refine aw_aload_n d_Night_liking_0 rfl ?_
  refine aw_get (k := 4) d_Night_liking_1 cl_Night k_Night_21 (by decide) hN rfl ?_
  refine aw_iload_n d_Night_liking_4 rfl ?_
  refine aw_bipush (v := nI 6) d_Night_liking_5 (by decide) ?_
  refine aw_imul d_Night_liking_7 ?_
  refine aw_iload_n d_Night_liking_8 rfl ?_
  refine aw_iadd d_Night_liking_9 ?_
  rw [pk_mul, nI_add, Nat.mul_comm a 6]
  refine aw_ialoadN d_Night_liking_10 hl (by omega) (by decide) ?_
  refine aw_ireturn d_Night_liking_11 rfl rfl ?_
  exact ⟨rfl, rfl, rfl⟩
theorem c_Slips_number {m : Nat} {h : ab_H} (a i j : Int32) : ab_D Y_Slips_number [.int a, .int i, .int j] m h (some (.int ((nI 36 * a + nI 6 * i) + j))) m (h) := by
  refine ab_C.of (L := [some (.int a), some (.int i), some (.int j)]) rfl rfl (Nat.le_of_ble_eq_true rfl) (fun l => ?_)
  refine aw_bipush (v := nI 36) d_Slips_number_0 (by decide) ?_
  refine aw_iload_n d_Slips_number_2 rfl ?_
  refine aw_imul d_Slips_number_3 ?_
  refine aw_bipush (v := nI 6) d_Slips_number_4 (by decide) ?_
  refine aw_iload_n d_Slips_number_6 rfl ?_
  refine aw_imul d_Slips_number_7 ?_
  refine aw_iadd d_Slips_number_8 ?_
  refine aw_iload_n d_Slips_number_9 rfl ?_
  refine aw_iadd d_Slips_number_10 ?_
  refine aw_ireturn d_Slips_number_11 rfl rfl ?_
  exact ⟨rfl, rfl, rfl⟩
theorem x_marks {V : VV} {m : Nat} {h : ab_H} {S : SS} (hX : PX V m h S) (ok : S_ok S) (hV : V_ok V) (c v : Int32) : CX V Y_Coat_marks [.int c, .int v] m h (fun r S2 => (r, S2) = sp_marks S c v) := by
  obtain ⟨⟨a0, ⟨n0, n1, n2, n3, n4, n5, n6, n7, n8⟩, a2⟩, p1, p2, p3, p4, p5, p6, p7⟩ := id hX
  have hn6 : N_n (S_N S) ≤ 6 := ok.1.1
  have hnT := nI_toInt (show N_n (S_N S) < 2 ^ 31 by omega)
  refine ab_C.of (L := [some (.ref 1), some (.int c), some (.int v), none]) rfl rfl (Nat.le_of_ble_eq_true rfl) (fun l => ?_)
  obtain ⟨gm, hm, am⟩ := n3
  refine aw_aload_n d_Coat_marks_0 rfl ?_
  refine aw_get (k := 0) d_Coat_marks_1 cl_Coat k_Coat_10 (by decide) a0 rfl ?_
  refine aw_iload_n d_Coat_marks_4 rfl ?_
  refine aw_v0i d_Coat_marks_5 k_Coat_93 ok_Night_isPerson rfl ⟨rfl, rfl⟩ cl_Night n0 (c_isPerson n0 c) rfl rfl (Nat.le_of_ble_eq_true rfl) ?_
  refine aw_if_eq (tgt := 18) d_Coat_marks_8 (by decide) (fun c8 => ?_) (fun c8 => ?_)
  · refine aw_iconst (v := (-1)) d_Coat_marks_18 (by decide) ?_
    refine aw_ireturn d_Coat_marks_19 rfl rfl ?_
    refine ⟨_, S, rfl, ?_, hX, Nat.le_refl _, fun k _ _ => rfl⟩
    try subst_vars
    unfold sp_marks
    repeat' split
    all_goals first
      | rfl
      | (exfalso; (try simp only [ab_bl_0, ab_bl_1, Bool.and_eq_true, Bool.and_eq_false_iff, Bool.not_eq_true', Bool.not_eq_false', decide_eq_true_eq, decide_eq_false_iff_not] at *); (try simp only [fa_lt, fa_le, fa_eq, ir, ti0, ti1, ti2, ti3, ti4, ti6, ti9, ti20, ti64, tim1, Int32.toInt_zero, Int32.toInt_one, true_and, and_true, false_and, and_false, not_true_eq_false, not_false_eq_true, false_or, or_false, hnT] at *) <;> omega)
      | (fail)
  · refine aw_iload_n d_Coat_marks_11 rfl ?_
    refine aw_s0i d_Coat_marks_12 k_Coat_78 ok_Coat_isMarks rfl ⟨rfl, rfl⟩ (c_Coat_isMarks v) rfl rfl (Nat.le_of_ble_eq_true rfl) ?_
    refine aw_if_ne (tgt := 20) d_Coat_marks_15 (by decide) (fun c15 => ?_) (fun c15 => ?_)
    · obtain ⟨j, hj, rfl⟩ := ab_rng (by omega) (ab_bl_1.mp c8)
      obtain ⟨u, hu, rfl⟩ := ab_rng (by decide) (ab_bl_1.mp c15)
      refine aw_aload_n d_Coat_marks_20 rfl ?_
      refine aw_get (k := 0) d_Coat_marks_21 cl_Coat k_Coat_10 (by decide) a0 rfl ?_
      refine aw_get (k := 3) d_Coat_marks_24 cl_Night k_Coat_111 (by decide) n0 rfl ?_
      refine aw_iload_n d_Coat_marks_27 rfl ?_
      refine aw_ialoadN d_Coat_marks_28 hm (by omega) (by decide) ?_
      refine aw_topi (fun v29 ev29 => ?_)
      refine aw_istore_n (L' := [some (.ref 1), some (.int (nI j)), some (.int (nI u)), some (.int v29)]) d_Coat_marks_29 ⟨by decide, rfl⟩ rfl ?_
      refine aw_aload_n d_Coat_marks_30 rfl ?_
      refine aw_get (k := 0) d_Coat_marks_31 cl_Coat k_Coat_10 (by decide) a0 rfl ?_
      refine aw_get (k := 3) d_Coat_marks_34 cl_Night k_Coat_111 (by decide) n0 rfl ?_
      refine aw_iload_n d_Coat_marks_37 rfl ?_
      refine aw_iload_n d_Coat_marks_38 rfl ?_
      refine aw_iastoreN d_Coat_marks_39 hm (by omega) (by decide) ?_
      refine aw_iload_n d_Coat_marks_40 rfl ?_
      refine aw_ireturn d_Coat_marks_41 rfl rfl ?_
      refine ⟨_, S_N_ S (N_mk_ (S_N S) (ud (N_mk (S_N S)) j u)), rfl, ?_, ⟨⟨a0, ⟨n0, n1, n2, rw_.up am j u, n4, n5, n6, n7, n8⟩, PXk.fr (K := S_K S) (fun k _ _ => ab_set_ne (by omega)) a2⟩, p1.fr (fun k _ _ => ab_set_ne (by omega)), p2.fr (fun k _ _ => ab_set_ne (by omega)), p3.fr (fun k _ _ => ab_set_ne (by omega)), (p4.fr (fun k _ _ => ab_set_ne (by omega))).cg (hV.1 _ _).1, (p5.fr (fun k _ _ => ab_set_ne (by omega))).cg (hV.1 _ _).2.1, (p6.fr (fun k _ _ => ab_set_ne (by omega))).cg (hV.1 _ _).2.2.1, p7.fr (fun k _ => ab_set_ne (by omega))⟩, Nat.le_refl _, fun k _ _ => ab_set_ne (by omega)⟩
      try subst_vars
      unfold sp_marks
      repeat' split
      all_goals first
        | rfl
        | (exfalso; (try simp only [ab_bl_0, ab_bl_1, Bool.and_eq_true, Bool.and_eq_false_iff, Bool.not_eq_true', Bool.not_eq_false', decide_eq_true_eq, decide_eq_false_iff_not] at *); (try simp only [fa_lt, fa_le, fa_eq, ir, ti0, ti1, ti2, ti3, ti4, ti6, ti9, ti20, ti64, tim1, Int32.toInt_zero, Int32.toInt_one, true_and, and_true, false_and, and_false, not_true_eq_false, not_false_eq_true, false_or, or_false, hnT] at *) <;> omega)
        | (simp only [cl_nI (show j < 2 ^ 31 by omega), cl_nI (show u < 2 ^ 31 by omega), am j (by omega)])
    · refine aw_iconst (v := (-1)) d_Coat_marks_18 (by decide) ?_
      refine aw_ireturn d_Coat_marks_19 rfl rfl ?_
      refine ⟨_, S, rfl, ?_, hX, Nat.le_refl _, fun k _ _ => rfl⟩
      try subst_vars
      unfold sp_marks
      repeat' split
      all_goals first
        | rfl
        | (exfalso; (try simp only [ab_bl_0, ab_bl_1, Bool.and_eq_true, Bool.and_eq_false_iff, Bool.not_eq_true', Bool.not_eq_false', decide_eq_true_eq, decide_eq_false_iff_not] at *); (try simp only [fa_lt, fa_le, fa_eq, ir, ti0, ti1, ti2, ti3, ti4, ti6, ti9, ti20, ti64, tim1, Int32.toInt_zero, Int32.toInt_one, true_and, and_true, false_and, and_false, not_true_eq_false, not_false_eq_true, false_or, or_false, hnT] at *) <;> omega)
        | (fail)
theorem x_likes {V : VV} {m : Nat} {h : ab_H} {S : SS} (hX : PX V m h S) (ok : S_ok S) (hV : V_ok V) (a c v : Int32) : CX V Y_Coat_likes [.int a, .int c, .int v] m h (fun r S2 => (r, S2) = sp_likes S a c v) := by
  obtain ⟨⟨a0, ⟨n0, n1, n2, n3, n4, n5, n6, n7, n8⟩, a2⟩, p1, p2, p3, p4, p5, p6, p7⟩ := id hX
  have hn6 : N_n (S_N S) ≤ 6 := ok.1.1
  have hnT := nI_toInt (show N_n (S_N S) < 2 ^ 31 by omega)
  refine ab_C.of (L := [some (.ref 1), some (.int a), some (.int c), some (.int v), none]) rfl rfl (Nat.le_of_ble_eq_true rfl) (fun l => ?_)
  obtain ⟨gm, hm, am⟩ := n4
  refine aw_aload_n d_Coat_likes_0 rfl ?_
  refine aw_get (k := 0) d_Coat_likes_1 cl_Coat k_Coat_10 (by decide) a0 rfl ?_
  refine aw_iload_n d_Coat_likes_4 rfl ?_
  refine aw_v0i d_Coat_likes_5 k_Coat_93 ok_Night_isPerson rfl ⟨rfl, rfl⟩ cl_Night n0 (c_isPerson n0 a) rfl rfl (Nat.le_of_ble_eq_true rfl) ?_
  refine aw_if_eq (tgt := 32) d_Coat_likes_8 (by decide) (fun c8 => ?_) (fun c8 => ?_)
  · refine aw_iconst (v := (-1)) d_Coat_likes_32 (by decide) ?_
    refine aw_ireturn d_Coat_likes_33 rfl rfl ?_
    refine ⟨_, S, rfl, ?_, hX, Nat.le_refl _, fun k _ _ => rfl⟩
    try subst_vars
    unfold sp_likes
    repeat' split
    all_goals first
      | rfl
      | (exfalso; (try simp only [ab_bl_0, ab_bl_1, Bool.and_eq_true, Bool.and_eq_false_iff, Bool.not_eq_true', Bool.not_eq_false', decide_eq_true_eq, decide_eq_false_iff_not] at *); (try simp only [fa_lt, fa_le, fa_eq, ir, ti0, ti1, ti2, ti3, ti4, ti6, ti9, ti20, ti64, tim1, Int32.toInt_zero, Int32.toInt_one, true_and, and_true, false_and, and_false, not_true_eq_false, not_false_eq_true, false_or, or_false, hnT] at *) <;> omega)
      | (fail)
  · refine aw_aload_n d_Coat_likes_11 rfl ?_
    refine aw_get (k := 0) d_Coat_likes_12 cl_Coat k_Coat_10 (by decide) a0 rfl ?_
    refine aw_iload_n d_Coat_likes_15 rfl ?_
    refine aw_v0i d_Coat_likes_16 k_Coat_93 ok_Night_isPerson rfl ⟨rfl, rfl⟩ cl_Night n0 (c_isPerson n0 c) rfl rfl (Nat.le_of_ble_eq_true rfl) ?_
    refine aw_if_eq (tgt := 32) d_Coat_likes_19 (by decide) (fun c19 => ?_) (fun c19 => ?_)
    · refine aw_iconst (v := (-1)) d_Coat_likes_32 (by decide) ?_
      refine aw_ireturn d_Coat_likes_33 rfl rfl ?_
      refine ⟨_, S, rfl, ?_, hX, Nat.le_refl _, fun k _ _ => rfl⟩
      try subst_vars
      unfold sp_likes
      repeat' split
      all_goals first
        | rfl
        | (exfalso; (try simp only [ab_bl_0, ab_bl_1, Bool.and_eq_true, Bool.and_eq_false_iff, Bool.not_eq_true', Bool.not_eq_false', decide_eq_true_eq, decide_eq_false_iff_not] at *); (try simp only [fa_lt, fa_le, fa_eq, ir, ti0, ti1, ti2, ti3, ti4, ti6, ti9, ti20, ti64, tim1, Int32.toInt_zero, Int32.toInt_one, true_and, and_true, false_and, and_false, not_true_eq_false, not_false_eq_true, false_or, or_false, hnT] at *) <;> omega)
        | (fail)
    · refine aw_iload_n d_Coat_likes_22 rfl ?_
      refine aw_if_lt (tgt := 32) d_Coat_likes_23 (by decide) (fun c23 => ?_) (fun c23 => ?_)
      · refine aw_iconst (v := (-1)) d_Coat_likes_32 (by decide) ?_
        refine aw_ireturn d_Coat_likes_33 rfl rfl ?_
        refine ⟨_, S, rfl, ?_, hX, Nat.le_refl _, fun k _ _ => rfl⟩
        try subst_vars
        unfold sp_likes
        repeat' split
        all_goals first
          | rfl
          | (exfalso; (try simp only [ab_bl_0, ab_bl_1, Bool.and_eq_true, Bool.and_eq_false_iff, Bool.not_eq_true', Bool.not_eq_false', decide_eq_true_eq, decide_eq_false_iff_not] at *); (try simp only [fa_lt, fa_le, fa_eq, ir, ti0, ti1, ti2, ti3, ti4, ti6, ti9, ti20, ti64, tim1, Int32.toInt_zero, Int32.toInt_one, true_and, and_true, false_and, and_false, not_true_eq_false, not_false_eq_true, false_or, or_false, hnT] at *) <;> omega)
          | (fail)
      · refine aw_iload_n d_Coat_likes_26 rfl ?_
        refine aw_bipush (v := nI 9) d_Coat_likes_27 (by decide) ?_
        refine aw_icmp_le (tgt := 34) d_Coat_likes_29 (by decide) (fun c29 => ?_) (fun c29 => ?_)
        · obtain ⟨j, hj, rfl⟩ := ab_rng (by omega) (ab_bl_1.mp c8)
          obtain ⟨i, hi, rfl⟩ := ab_rng (by omega) (ab_bl_1.mp c19)
          obtain ⟨u, hu, rfl⟩ : ∃ u, u ≤ 9 ∧ v = nI u := nI_of2 (M := nI 9) (by decide) c23 c29
          refine aw_aload_n d_Coat_likes_34 rfl ?_
          refine aw_get (k := 0) d_Coat_likes_35 cl_Coat k_Coat_10 (by decide) a0 rfl ?_
          refine aw_iload_n d_Coat_likes_38 rfl ?_
          refine aw_iload_n d_Coat_likes_39 rfl ?_
          refine aw_v0i d_Coat_likes_40 k_Coat_132 ok_Night_liking rfl ⟨rfl, rfl⟩ cl_Night n0 (c_liking n0 hm j i (by omega) (by omega)) rfl rfl (Nat.le_of_ble_eq_true rfl) ?_
          refine aw_topi (fun v43 ev43 => ?_)
          refine aw_istore (L' := [some (.ref 1), some (.int (nI j)), some (.int (nI i)), some (.int (nI u)), some (.int v43)]) d_Coat_likes_43 ⟨by decide, rfl⟩ rfl ?_
          refine aw_aload_n d_Coat_likes_45 rfl ?_
          refine aw_get (k := 0) d_Coat_likes_46 cl_Coat k_Coat_10 (by decide) a0 rfl ?_
          refine aw_get (k := 4) d_Coat_likes_49 cl_Night k_Coat_135 (by decide) n0 rfl ?_
          refine aw_iload_n d_Coat_likes_52 rfl ?_
          refine aw_bipush (v := nI 6) d_Coat_likes_53 (by decide) ?_
          refine aw_imul d_Coat_likes_55 ?_
          refine aw_iload_n d_Coat_likes_56 rfl ?_
          refine aw_iadd d_Coat_likes_57 ?_
          rw [pk_mul, nI_add, Nat.mul_comm j 6]
          refine aw_iload_n d_Coat_likes_58 rfl ?_
          refine aw_iastoreN d_Coat_likes_59 hm (by omega) (by decide) ?_
          refine aw_iload d_Coat_likes_60 rfl ?_
          refine aw_ireturn d_Coat_likes_62 rfl rfl ?_
          refine ⟨_, S_N_ S (N_lk_ (S_N S) (ud (N_lk (S_N S)) (6 * j + i) u)), rfl, ?_, ⟨⟨a0, ⟨n0, n1, n2, n3, rw_.up am (6 * j + i) u, n5, n6, n7, n8⟩, PXk.fr (K := S_K S) (fun k _ _ => ab_set_ne (by omega)) a2⟩, p1.fr (fun k _ _ => ab_set_ne (by omega)), p2.fr (fun k _ _ => ab_set_ne (by omega)), p3.fr (fun k _ _ => ab_set_ne (by omega)), (p4.fr (fun k _ _ => ab_set_ne (by omega))).cg (hV.2.1 _ _).1, (p5.fr (fun k _ _ => ab_set_ne (by omega))).cg (hV.2.1 _ _).2.1, (p6.fr (fun k _ _ => ab_set_ne (by omega))).cg (hV.2.1 _ _).2.2.1, p7.fr (fun k _ => ab_set_ne (by omega))⟩, Nat.le_refl _, fun k _ _ => ab_set_ne (by omega)⟩
          try subst_vars
          unfold sp_likes
          repeat' split
          all_goals first
            | rfl
            | (exfalso; (try simp only [ab_bl_0, ab_bl_1, Bool.and_eq_true, Bool.and_eq_false_iff, Bool.not_eq_true', Bool.not_eq_false', decide_eq_true_eq, decide_eq_false_iff_not] at *); (try simp only [fa_lt, fa_le, fa_eq, ir, ti0, ti1, ti2, ti3, ti4, ti6, ti9, ti20, ti64, tim1, Int32.toInt_zero, Int32.toInt_one, true_and, and_true, false_and, and_false, not_true_eq_false, not_false_eq_true, false_or, or_false, hnT] at *) <;> omega)
            | (simp only [cl_nI (show j < 2 ^ 31 by omega), cl_nI (show i < 2 ^ 31 by omega), cl_nI (show u < 2 ^ 31 by omega), am (6 * j + i) (by omega)])
        · refine aw_iconst (v := (-1)) d_Coat_likes_32 (by decide) ?_
          refine aw_ireturn d_Coat_likes_33 rfl rfl ?_
          refine ⟨_, S, rfl, ?_, hX, Nat.le_refl _, fun k _ _ => rfl⟩
          try subst_vars
          unfold sp_likes
          repeat' split
          all_goals first
            | rfl
            | (exfalso; (try simp only [ab_bl_0, ab_bl_1, Bool.and_eq_true, Bool.and_eq_false_iff, Bool.not_eq_true', Bool.not_eq_false', decide_eq_true_eq, decide_eq_false_iff_not] at *); (try simp only [fa_lt, fa_le, fa_eq, ir, ti0, ti1, ti2, ti3, ti4, ti6, ti9, ti20, ti64, tim1, Int32.toInt_zero, Int32.toInt_one, true_and, and_true, false_and, and_false, not_true_eq_false, not_false_eq_true, false_or, or_false, hnT] at *) <;> omega)
            | (fail)
theorem x_inn {V : VV} {m : Nat} {h : ab_H} {S : SS} (hX : PX V m h S) (ok : S_ok S)  (x y : Int32) : CX V Y_Coat_inn [.int x, .int y] m h (fun r S2 => (r, S2) = sp_inn S x y) := by
  obtain ⟨⟨a0, ⟨n0, n1, n2, n3, n4, n5, n6, n7, n8⟩, a2⟩, p1, p2, p3, p4, p5, p6, p7⟩ := id hX
  have hn6 : N_n (S_N S) ≤ 6 := ok.1.1
  have hnT := nI_toInt (show N_n (S_N S) < 2 ^ 31 by omega)
  refine ab_C.of (L := [some (.ref 1), some (.int x), some (.int y)]) rfl rfl (Nat.le_of_ble_eq_true rfl) (fun l => ?_)
  obtain ⟨gm, hm, am⟩ := n6
  obtain ⟨gk, hk, ak⟩ := n7
  have hs4 : N_ns (S_N S) ≤ 4 := ok.1.2.2.2.2.2.2.2.2.1
  have hsT := nI_toInt (show N_ns (S_N S) < 2 ^ 31 by omega)
  refine aw_iload_n d_Coat_inn_0 rfl ?_
  refine aw_iload_n d_Coat_inn_1 rfl ?_
  refine aw_s0i d_Coat_inn_2 k_Coat_74 ok_Coat_isPlace rfl ⟨rfl, rfl⟩ (c_Coat_isPlace x y) rfl rfl (Nat.le_of_ble_eq_true rfl) ?_
  refine aw_if_ne (tgt := 10) d_Coat_inn_5 (by decide) (fun c5 => ?_) (fun c5 => ?_)
  · refine aw_aload_n d_Coat_inn_10 rfl ?_
    refine aw_get (k := 0) d_Coat_inn_11 cl_Coat k_Coat_10 (by decide) a0 rfl ?_
    refine aw_get (k := 8) d_Coat_inn_14 cl_Night k_Coat_150 (by decide) n0 rfl ?_
    refine aw_iconst (v := nI 4) d_Coat_inn_17 (by decide) ?_
    refine aw_icmp_lt (tgt := 24) d_Coat_inn_18 (by decide) (fun c18 => ?_) (fun c18 => ?_)
    · have hxy := ab_bl_1.mp c5
      simp only [Bool.and_eq_true] at hxy
      obtain ⟨u, hu, rfl⟩ := ab_rng (n := 20) (by decide) (by simp only [Bool.and_eq_true]; exact hxy.1)
      obtain ⟨v, hv, rfl⟩ := ab_rng (n := 20) (by decide) (by simp only [Bool.and_eq_true]; exact hxy.2)
      have hs : N_ns (S_N S) < 4 := by rw [fa_lt, hsT] at c18; simp only [ti4] at c18; omega
      refine aw_aload_n d_Coat_inn_24 rfl ?_
      refine aw_get (k := 0) d_Coat_inn_25 cl_Coat k_Coat_10 (by decide) a0 rfl ?_
      refine aw_get (k := 9) d_Coat_inn_28 cl_Night k_Coat_153 (by decide) n0 rfl ?_
      refine aw_aload_n d_Coat_inn_31 rfl ?_
      refine aw_get (k := 0) d_Coat_inn_32 cl_Coat k_Coat_10 (by decide) a0 rfl ?_
      refine aw_get (k := 8) d_Coat_inn_35 cl_Night k_Coat_150 (by decide) n0 rfl ?_
      refine aw_iload_n d_Coat_inn_38 rfl ?_
      refine aw_iastoreN d_Coat_inn_39 hm (by omega) (by decide) ?_
      refine aw_aload_n d_Coat_inn_40 rfl ?_
      refine aw_get (k := 0) d_Coat_inn_41 cl_Coat k_Coat_10 (by decide) a0 rfl ?_
      refine aw_get (k := 10) d_Coat_inn_44 cl_Night k_Coat_156 (by decide) n0 rfl ?_
      refine aw_aload_n d_Coat_inn_47 rfl ?_
      refine aw_get (k := 0) d_Coat_inn_48 cl_Coat k_Coat_10 (by decide) a0 rfl ?_
      refine aw_get (k := 8) d_Coat_inn_51 cl_Night k_Coat_150 (by decide) n0 rfl ?_
      refine aw_iload_n d_Coat_inn_54 rfl ?_
      refine aw_iastoreN d_Coat_inn_55 hk (by omega) (by decide) ?_
      refine aw_aload_n d_Coat_inn_56 rfl ?_
      refine aw_get (k := 0) d_Coat_inn_57 cl_Coat k_Coat_10 (by decide) a0 rfl ?_
      refine aw_dup d_Coat_inn_60 rfl ?_
      refine aw_get (k := 8) d_Coat_inn_61 cl_Night k_Coat_150 (by decide) n0 rfl ?_
      refine aw_iconst (v := nI 1) d_Coat_inn_64 (by decide) ?_
      refine aw_iadd d_Coat_inn_65 ?_
      rw [nI_add]
      refine aw_put (k := 8) (fs' := [.int (nI (N_n (S_N S))), .ref 3, .ref 4, .ref 5, .ref 6, .ref 7, .int (nI (pk (N_t (S_N S)))), .int (nI (N_w (S_N S))), .int (nI (N_ns (S_N S) + 1)), .ref 8, .ref 9, .int (nI (N_ra (S_N S))), .int (nI (N_se (S_N S))), .int (N_me (S_N S)), .int (N_mi (S_N S)), .int (nI (N_fe (S_N S))), .ref 10]) d_Coat_inn_66 cl_Night k_Coat_150 (by decide) rfl ⟨rfl, rfl⟩ n0 (Nat.le_of_ble_eq_true rfl) rfl ?_
      refine aw_aload_n d_Coat_inn_69 rfl ?_
      refine aw_v0 (a := 1) d_Coat_inn_70 k_Coat_90 ok_Coat_changed rfl ⟨rfl, rfl⟩ cl_Coat a0 (c_changed (V := V) (S := S_N_ S (N_ns_ (N_ix_ (N_iy_ (S_N S) (ud (N_iy (S_N S)) (N_ns (S_N S)) v)) (ud (N_ix (S_N S)) (N_ns (S_N S)) u)) (N_ns (S_N S) + 1))) ⟨⟨a0, ⟨rfl, n1, n2, n3, n4, n5, rw_.up2 rfl am, rw_.up2 rfl ak, n8⟩, PXk.fr (K := S_K S) (fun k _ _ => by rw [ab_set_ne (by omega), ab_set_ne (by omega), ab_set_ne (by omega)]) a2⟩, p1.fr (fun k _ _ => by rw [ab_set_ne (by omega), ab_set_ne (by omega), ab_set_ne (by omega)]), p2.fr (fun k _ _ => by rw [ab_set_ne (by omega), ab_set_ne (by omega), ab_set_ne (by omega)]), p3.fr (fun k _ _ => by rw [ab_set_ne (by omega), ab_set_ne (by omega), ab_set_ne (by omega)]), ⟨_, p4.fr (fun k _ _ => by rw [ab_set_ne (by omega), ab_set_ne (by omega), ab_set_ne (by omega)])⟩, ⟨_, p5.fr (fun k _ _ => by rw [ab_set_ne (by omega), ab_set_ne (by omega), ab_set_ne (by omega)])⟩, ⟨_, p6.fr (fun k _ _ => by rw [ab_set_ne (by omega), ab_set_ne (by omega), ab_set_ne (by omega)])⟩, p7.fr (fun k _ => by rw [ab_set_ne (by omega), ab_set_ne (by omega), ab_set_ne (by omega)])⟩) rfl rfl (Nat.le_of_ble_eq_true rfl) (fun r m2 h2 q => ?_)
      obtain ⟨rfl, rfl, hX2, hf2⟩ := q
      refine aw_aload_n d_Coat_inn_73 rfl ?_
      refine aw_get (k := 0) d_Coat_inn_74 cl_Coat k_Coat_10 (by decide) hX2.1.1 rfl ?_
      refine aw_get (k := 8) d_Coat_inn_77 cl_Night k_Coat_150 (by decide) hX2.1.2.1.1 rfl ?_
      refine aw_iconst (v := nI 1) d_Coat_inn_80 (by decide) ?_
      refine aw_isub d_Coat_inn_81 ?_
      rw [show nI (N_ns (S_N S) + 1) - nI 1 = nI (N_ns (S_N S)) from nI_pred _]
      refine aw_ireturn d_Coat_inn_82 rfl rfl ?_
      refine ⟨_, S_N_ S (N_ns_ (N_ix_ (N_iy_ (S_N S) (ud (N_iy (S_N S)) (N_ns (S_N S)) v)) (ud (N_ix (S_N S)) (N_ns (S_N S)) u)) (N_ns (S_N S) + 1)), rfl, ?_, hX2, Nat.le_refl _, fun k g1 g2 => (hf2 k g1 g2).trans (by rw [ab_set_ne (by omega), ab_set_ne (by omega), ab_set_ne (by omega)])⟩
      try subst_vars
      unfold sp_inn
      repeat' split
      all_goals first
        | rfl
        | (exfalso; (try simp only [ab_bl_0, ab_bl_1, Bool.and_eq_true, Bool.and_eq_false_iff, Bool.not_eq_true', Bool.not_eq_false', decide_eq_true_eq, decide_eq_false_iff_not] at *); (try simp only [fa_lt, fa_le, fa_eq, ir, ti0, ti1, ti2, ti3, ti4, ti6, ti9, ti20, ti64, tim1, Int32.toInt_zero, Int32.toInt_one, true_and, and_true, false_and, and_false, not_true_eq_false, not_false_eq_true, false_or, or_false, hnT, hsT] at *) <;> omega)
        | (simp only [cl_nI (show u < 2 ^ 31 by omega), cl_nI (show v < 2 ^ 31 by omega)])
    · refine aw_bipush (v := (-3)) d_Coat_inn_21 (by decide) ?_
      refine aw_ireturn d_Coat_inn_23 rfl rfl ?_
      refine ⟨_, S, rfl, ?_, hX, Nat.le_refl _, fun k _ _ => rfl⟩
      try subst_vars
      unfold sp_inn
      repeat' split
      all_goals first
        | rfl
        | (exfalso; (try simp only [ab_bl_0, ab_bl_1, Bool.and_eq_true, Bool.and_eq_false_iff, Bool.not_eq_true', Bool.not_eq_false', decide_eq_true_eq, decide_eq_false_iff_not] at *); (try simp only [fa_lt, fa_le, fa_eq, ir, ti0, ti1, ti2, ti3, ti4, ti6, ti9, ti20, ti64, tim1, Int32.toInt_zero, Int32.toInt_one, true_and, and_true, false_and, and_false, not_true_eq_false, not_false_eq_true, false_or, or_false, hnT, hsT] at *) <;> omega)
        | (fail)
  · refine aw_iconst (v := (-1)) d_Coat_inn_8 (by decide) ?_
    refine aw_ireturn d_Coat_inn_9 rfl rfl ?_
    refine ⟨_, S, rfl, ?_, hX, Nat.le_refl _, fun k _ _ => rfl⟩
    try subst_vars
    unfold sp_inn
    repeat' split
    all_goals first
      | rfl
      | (exfalso; (try simp only [ab_bl_0, ab_bl_1, Bool.and_eq_true, Bool.and_eq_false_iff, Bool.not_eq_true', Bool.not_eq_false', decide_eq_true_eq, decide_eq_false_iff_not] at *); (try simp only [fa_lt, fa_le, fa_eq, ir, ti0, ti1, ti2, ti3, ti4, ti6, ti9, ti20, ti64, tim1, Int32.toInt_zero, Int32.toInt_one, true_and, and_true, false_and, and_false, not_true_eq_false, not_false_eq_true, false_or, or_false, hnT, hsT] at *) <;> omega)
      | (fail)
theorem x_fear {V : VV} {m : Nat} {h : ab_H} {S : SS} (hX : PX V m h S) (ok : S_ok S)  (a x y : Int32) : CX V Y_Coat_fear [.int a, .int x, .int y] m h (fun r S2 => (r, S2) = sp_fear S a x y) := by
  obtain ⟨⟨a0, ⟨n0, n1, n2, n3, n4, n5, n6, n7, n8⟩, a2⟩, p1, p2, p3, p4, p5, p6, p7⟩ := id hX
  have hn6 : N_n (S_N S) ≤ 6 := ok.1.1
  have hnT := nI_toInt (show N_n (S_N S) < 2 ^ 31 by omega)
  refine ab_C.of (L := [some (.ref 1), some (.int a), some (.int x), some (.int y)]) rfl rfl (Nat.le_of_ble_eq_true rfl) (fun l => ?_)
  obtain ⟨gm, hm, am⟩ := n8
  have hs4 : N_fe (S_N S) ≤ 6 := ok.1.2.2.2.2.2.2.2.2.2.2.2.2.2.2.1
  have hsT := nI_toInt (show N_fe (S_N S) < 2 ^ 31 by omega)
  refine aw_iload_n d_Coat_fear_0 rfl ?_
  refine aw_if_lt (tgt := 29) d_Coat_fear_1 (by decide) (fun c1 => ?_) (fun c1 => ?_)
  · refine aw_iconst (v := (-1)) d_Coat_fear_29 (by decide) ?_
    refine aw_ireturn d_Coat_fear_30 rfl rfl ?_
    refine ⟨_, S, rfl, ?_, hX, Nat.le_refl _, fun k _ _ => rfl⟩
    try subst_vars
    unfold sp_fear
    repeat' split
    all_goals first
      | rfl
      | (exfalso; (try simp only [ab_bl_0, ab_bl_1, Bool.and_eq_true, Bool.and_eq_false_iff, Bool.not_eq_true', Bool.not_eq_false', decide_eq_true_eq, decide_eq_false_iff_not] at *); (try simp only [fa_lt, fa_le, fa_eq, ir, ti0, ti1, ti2, ti3, ti4, ti6, ti9, ti20, ti64, tim1, Int32.toInt_zero, Int32.toInt_one, true_and, and_true, false_and, and_false, not_true_eq_false, not_false_eq_true, false_or, or_false, hnT, hsT] at *) <;> omega)
      | (fail)
  · refine aw_iload_n d_Coat_fear_4 rfl ?_
    refine aw_iconst (v := nI 3) d_Coat_fear_5 (by decide) ?_
    refine aw_icmp_ge (tgt := 29) d_Coat_fear_6 (by decide) (fun c6 => ?_) (fun c6 => ?_)
    · refine aw_iconst (v := (-1)) d_Coat_fear_29 (by decide) ?_
      refine aw_ireturn d_Coat_fear_30 rfl rfl ?_
      refine ⟨_, S, rfl, ?_, hX, Nat.le_refl _, fun k _ _ => rfl⟩
      try subst_vars
      unfold sp_fear
      repeat' split
      all_goals first
        | rfl
        | (exfalso; (try simp only [ab_bl_0, ab_bl_1, Bool.and_eq_true, Bool.and_eq_false_iff, Bool.not_eq_true', Bool.not_eq_false', decide_eq_true_eq, decide_eq_false_iff_not] at *); (try simp only [fa_lt, fa_le, fa_eq, ir, ti0, ti1, ti2, ti3, ti4, ti6, ti9, ti20, ti64, tim1, Int32.toInt_zero, Int32.toInt_one, true_and, and_true, false_and, and_false, not_true_eq_false, not_false_eq_true, false_or, or_false, hnT, hsT] at *) <;> omega)
        | (fail)
    · refine aw_iload_n d_Coat_fear_9 rfl ?_
      refine aw_if_lt (tgt := 29) d_Coat_fear_10 (by decide) (fun c10 => ?_) (fun c10 => ?_)
      · refine aw_iconst (v := (-1)) d_Coat_fear_29 (by decide) ?_
        refine aw_ireturn d_Coat_fear_30 rfl rfl ?_
        refine ⟨_, S, rfl, ?_, hX, Nat.le_refl _, fun k _ _ => rfl⟩
        try subst_vars
        unfold sp_fear
        repeat' split
        all_goals first
          | rfl
          | (exfalso; (try simp only [ab_bl_0, ab_bl_1, Bool.and_eq_true, Bool.and_eq_false_iff, Bool.not_eq_true', Bool.not_eq_false', decide_eq_true_eq, decide_eq_false_iff_not] at *); (try simp only [fa_lt, fa_le, fa_eq, ir, ti0, ti1, ti2, ti3, ti4, ti6, ti9, ti20, ti64, tim1, Int32.toInt_zero, Int32.toInt_one, true_and, and_true, false_and, and_false, not_true_eq_false, not_false_eq_true, false_or, or_false, hnT, hsT] at *) <;> omega)
          | (fail)
      · refine aw_iload_n d_Coat_fear_13 rfl ?_
        refine aw_iload_n d_Coat_fear_14 rfl ?_
        refine aw_icmp_ge (tgt := 29) d_Coat_fear_15 (by decide) (fun c15 => ?_) (fun c15 => ?_)
        · refine aw_iconst (v := (-1)) d_Coat_fear_29 (by decide) ?_
          refine aw_ireturn d_Coat_fear_30 rfl rfl ?_
          refine ⟨_, S, rfl, ?_, hX, Nat.le_refl _, fun k _ _ => rfl⟩
          try subst_vars
          unfold sp_fear
          repeat' split
          all_goals first
            | rfl
            | (exfalso; (try simp only [ab_bl_0, ab_bl_1, Bool.and_eq_true, Bool.and_eq_false_iff, Bool.not_eq_true', Bool.not_eq_false', decide_eq_true_eq, decide_eq_false_iff_not] at *); (try simp only [fa_lt, fa_le, fa_eq, ir, ti0, ti1, ti2, ti3, ti4, ti6, ti9, ti20, ti64, tim1, Int32.toInt_zero, Int32.toInt_one, true_and, and_true, false_and, and_false, not_true_eq_false, not_false_eq_true, false_or, or_false, hnT, hsT] at *) <;> omega)
            | (fail)
        · refine aw_iload_n d_Coat_fear_18 rfl ?_
          refine aw_aload_n d_Coat_fear_19 rfl ?_
          refine aw_get (k := 0) d_Coat_fear_20 cl_Coat k_Coat_10 (by decide) a0 rfl ?_
          refine aw_get (k := 0) d_Coat_fear_23 cl_Night k_Coat_82 (by decide) n0 rfl ?_
          refine aw_icmp_lt (tgt := 31) d_Coat_fear_26 (by decide) (fun c26 => ?_) (fun c26 => ?_)
          · refine aw_aload_n d_Coat_fear_31 rfl ?_
            refine aw_get (k := 0) d_Coat_fear_32 cl_Coat k_Coat_10 (by decide) a0 rfl ?_
            refine aw_get (k := 15) d_Coat_fear_35 cl_Night k_Coat_177 (by decide) n0 rfl ?_
            refine aw_bipush (v := nI 6) d_Coat_fear_38 (by decide) ?_
            refine aw_icmp_lt (tgt := 46) d_Coat_fear_40 (by decide) (fun c40 => ?_) (fun c40 => ?_)
            · have hc : ir a 0 2 ∧ 0 ≤ x.toInt ∧ x.toInt < y.toInt ∧ y.toInt < N_n (S_N S) := by
                simp only [fa_lt, fa_le, ti3, Int32.toInt_zero, hnT] at c1 c6 c10 c15 c26
                omega
              obtain ⟨⟨g1, g2⟩, g3, g4, g5⟩ := hc
              obtain ⟨b, hb, rfl⟩ : ∃ b : Nat, (b : Int) = a.toInt ∧ a = nI b := ⟨cl a, cl_int g1, cl_of g1⟩
              obtain ⟨i, hi, rfl⟩ : ∃ b : Nat, (b : Int) = x.toInt ∧ x = nI b := ⟨cl x, cl_int g3, cl_of g3⟩
              obtain ⟨j, hj, rfl⟩ : ∃ b : Nat, (b : Int) = y.toInt ∧ y = nI b := ⟨cl y, cl_int (by omega), cl_of (by omega)⟩
              have hs : N_fe (S_N S) < 6 := by rw [fa_lt, hsT] at c40; simp only [ti6] at c40; omega
              refine aw_aload_n d_Coat_fear_46 rfl ?_
              refine aw_get (k := 0) d_Coat_fear_47 cl_Coat k_Coat_10 (by decide) a0 rfl ?_
              refine aw_get (k := 16) d_Coat_fear_50 cl_Night k_Coat_275 (by decide) n0 rfl ?_
              refine aw_aload_n d_Coat_fear_53 rfl ?_
              refine aw_get (k := 0) d_Coat_fear_54 cl_Coat k_Coat_10 (by decide) a0 rfl ?_
              refine aw_get (k := 15) d_Coat_fear_57 cl_Night k_Coat_177 (by decide) n0 rfl ?_
              refine aw_iload_n d_Coat_fear_60 rfl ?_
              refine aw_iload_n d_Coat_fear_61 rfl ?_
              refine aw_iload_n d_Coat_fear_62 rfl ?_
              refine aw_s0i d_Coat_fear_63 k_Coat_278 ok_Slips_number rfl ⟨rfl, rfl⟩ (c_Slips_number (nI b) (nI i) (nI j)) rfl rfl (Nat.le_of_ble_eq_true rfl) ?_
              rw [pk_mul, pk_mul, nI_add, nI_add]
              refine aw_iastoreN d_Coat_fear_66 hm (by omega) (by decide) ?_
              refine aw_aload_n d_Coat_fear_67 rfl ?_
              refine aw_get (k := 0) d_Coat_fear_68 cl_Coat k_Coat_10 (by decide) a0 rfl ?_
              refine aw_dup d_Coat_fear_71 rfl ?_
              refine aw_get (k := 15) d_Coat_fear_72 cl_Night k_Coat_177 (by decide) n0 rfl ?_
              refine aw_iconst (v := nI 1) d_Coat_fear_75 (by decide) ?_
              refine aw_iadd d_Coat_fear_76 ?_
              rw [nI_add]
              refine aw_put (k := 15) (fs' := [.int (nI (N_n (S_N S))), .ref 3, .ref 4, .ref 5, .ref 6, .ref 7, .int (nI (pk (N_t (S_N S)))), .int (nI (N_w (S_N S))), .int (nI (N_ns (S_N S))), .ref 8, .ref 9, .int (nI (N_ra (S_N S))), .int (nI (N_se (S_N S))), .int (N_me (S_N S)), .int (N_mi (S_N S)), .int (nI (N_fe (S_N S) + 1)), .ref 10]) d_Coat_fear_77 cl_Night k_Coat_177 (by decide) rfl ⟨rfl, rfl⟩ n0 (Nat.le_of_ble_eq_true rfl) rfl ?_
              refine aw_aload_n d_Coat_fear_80 rfl ?_
              refine aw_v0 (a := 1) d_Coat_fear_81 k_Coat_90 ok_Coat_changed rfl ⟨rfl, rfl⟩ cl_Coat a0 (c_changed (V := V) (S := S_N_ S (N_fe_ (N_ff_ (S_N S) (ud (N_ff (S_N S)) (N_fe (S_N S)) (36 * b + 6 * i + j))) (N_fe (S_N S) + 1))) ⟨⟨a0, ⟨rfl, n1, n2, n3, n4, n5, n6, n7, rw_.up2 rfl am⟩, PXk.fr (K := S_K S) (fun k _ _ => by rw [ab_set_ne (by omega), ab_set_ne (by omega)]) a2⟩, p1.fr (fun k _ _ => by rw [ab_set_ne (by omega), ab_set_ne (by omega)]), p2.fr (fun k _ _ => by rw [ab_set_ne (by omega), ab_set_ne (by omega)]), p3.fr (fun k _ _ => by rw [ab_set_ne (by omega), ab_set_ne (by omega)]), ⟨_, p4.fr (fun k _ _ => by rw [ab_set_ne (by omega), ab_set_ne (by omega)])⟩, ⟨_, p5.fr (fun k _ _ => by rw [ab_set_ne (by omega), ab_set_ne (by omega)])⟩, ⟨_, p6.fr (fun k _ _ => by rw [ab_set_ne (by omega), ab_set_ne (by omega)])⟩, p7.fr (fun k _ => by rw [ab_set_ne (by omega), ab_set_ne (by omega)])⟩) rfl rfl (Nat.le_of_ble_eq_true rfl) (fun r m2 h2 q => ?_)
              obtain ⟨rfl, rfl, hX2, hf2⟩ := q
              refine aw_aload_n d_Coat_fear_84 rfl ?_
              refine aw_get (k := 0) d_Coat_fear_85 cl_Coat k_Coat_10 (by decide) hX2.1.1 rfl ?_
              refine aw_get (k := 15) d_Coat_fear_88 cl_Night k_Coat_177 (by decide) hX2.1.2.1.1 rfl ?_
              refine aw_iconst (v := nI 1) d_Coat_fear_91 (by decide) ?_
              refine aw_isub d_Coat_fear_92 ?_
              rw [show nI (N_fe (S_N S) + 1) - nI 1 = nI (N_fe (S_N S)) from nI_pred _]
              refine aw_ireturn d_Coat_fear_93 rfl rfl ?_
              refine ⟨_, S_N_ S (N_fe_ (N_ff_ (S_N S) (ud (N_ff (S_N S)) (N_fe (S_N S)) (36 * b + 6 * i + j))) (N_fe (S_N S) + 1)), rfl, ?_, hX2, Nat.le_refl _, fun k g1 g2 => (hf2 k g1 g2).trans (by rw [ab_set_ne (by omega), ab_set_ne (by omega)])⟩
              try subst_vars
              unfold sp_fear
              repeat' split
              all_goals first
                | rfl
                | (exfalso; (try simp only [ab_bl_0, ab_bl_1, Bool.and_eq_true, Bool.and_eq_false_iff, Bool.not_eq_true', Bool.not_eq_false', decide_eq_true_eq, decide_eq_false_iff_not] at *); (try simp only [fa_lt, fa_le, fa_eq, ir, ti0, ti1, ti2, ti3, ti4, ti6, ti9, ti20, ti64, tim1, Int32.toInt_zero, Int32.toInt_one, true_and, and_true, false_and, and_false, not_true_eq_false, not_false_eq_true, false_or, or_false, hnT, hsT] at *) <;> omega)
                | (simp only [cl_nI (show b < 2 ^ 31 by omega), cl_nI (show i < 2 ^ 31 by omega), cl_nI (show j < 2 ^ 31 by omega)])
            · refine aw_bipush (v := (-3)) d_Coat_fear_43 (by decide) ?_
              refine aw_ireturn d_Coat_fear_45 rfl rfl ?_
              refine ⟨_, S, rfl, ?_, hX, Nat.le_refl _, fun k _ _ => rfl⟩
              try subst_vars
              unfold sp_fear
              repeat' split
              all_goals first
                | rfl
                | (exfalso; (try simp only [ab_bl_0, ab_bl_1, Bool.and_eq_true, Bool.and_eq_false_iff, Bool.not_eq_true', Bool.not_eq_false', decide_eq_true_eq, decide_eq_false_iff_not] at *); (try simp only [fa_lt, fa_le, fa_eq, ir, ti0, ti1, ti2, ti3, ti4, ti6, ti9, ti20, ti64, tim1, Int32.toInt_zero, Int32.toInt_one, true_and, and_true, false_and, and_false, not_true_eq_false, not_false_eq_true, false_or, or_false, hnT, hsT] at *) <;> omega)
                | (fail)
          · refine aw_iconst (v := (-1)) d_Coat_fear_29 (by decide) ?_
            refine aw_ireturn d_Coat_fear_30 rfl rfl ?_
            refine ⟨_, S, rfl, ?_, hX, Nat.le_refl _, fun k _ _ => rfl⟩
            try subst_vars
            unfold sp_fear
            repeat' split
            all_goals first
              | rfl
              | (exfalso; (try simp only [ab_bl_0, ab_bl_1, Bool.and_eq_true, Bool.and_eq_false_iff, Bool.not_eq_true', Bool.not_eq_false', decide_eq_true_eq, decide_eq_false_iff_not] at *); (try simp only [fa_lt, fa_le, fa_eq, ir, ti0, ti1, ti2, ti3, ti4, ti6, ti9, ti20, ti64, tim1, Int32.toInt_zero, Int32.toInt_one, true_and, and_true, false_and, and_false, not_true_eq_false, not_false_eq_true, false_or, or_false, hnT, hsT] at *) <;> omega)
              | (fail)
