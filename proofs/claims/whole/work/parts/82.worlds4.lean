theorem PM.mk2 {V : VV} {c : Nat} {h h2 : ab_H} {S : SS} (hc : c < 900) {tab2 la at_ wr : Int32} {ve : Nat} {fs ft : Nat → Int32} (e2 : h2 56 = oM (N_n (S_N S)) (N_ns (S_N S)) (N_ra (S_N S)) (N_se (S_N S)) (N_me (S_N S)) (N_mi (S_N S)) tab2 (nI ve) la (S_tl S) at_ wr (N_fe (S_N S)) (S_K S).isSome) (m1 : ve ≤ c) (m3 : wr = 0 ∨ wr = 1) (m4 : h2 73 = .inl (214560, fs)) (m5 : h2 74 = .inl (214560, ft)) (m6 : la = -1 ∨ ∃ j, j ≤ ve ∧ la = nI j ∧ (j = ve → V.2.2.2.2 (S_N S) fs ft)) (n : PMn h (S_N S)) (q1 : ∃ g : Nat → Int32, h 76 = .inl (100, g) ∧ ∀ k, k < S_tl S → g k = S_ts S k) (q2 : PMs h S) (q4 : ∃ g : Nat → Int32, h 84 = .inl (128, g) ∧ ∀ K, S_K S = some K → MK g K) (q : ∀ k, 57 ≤ k → k ≤ 88 → ¬ scr k → k < 73 ∨ 74 < k → h2 k = h k) (r : PMr h2) : PM V (c + 1) h2 S := by
  unfold scr at q
  have q' : ∀ k, 57 ≤ k → k ≤ 88 → ¬ scr k → (if k = 73 ∨ k = 74 then h k else h2 k) = h k := fun k a b d => by
    unfold scr at d
    by_cases z : k = 73 ∨ k = 74
    · rw [if_pos z]
    · rw [if_neg z]; exact q k a b d (by omega)
  refine ⟨⟨tab2, la, at_, wr, ve, fs, ft, e2, by omega, by omega, m3, m4, m5, m6⟩, ?_, ?_, ?_, r, ?_⟩
  · have z := n.sc q'
    obtain ⟨a0, a1, a2, a3, a4, a5, a6, a7, a8, a9⟩ := z
    exact ⟨a0, a1, a2, a3, a4, a5, a6, a7, a8, a9⟩
  · rw [q 76 (by omega) (by omega) (by omega) (by omega)]; exact q1
  · unfold PMs at *
    unfold ra_ at *
    rw [q 85 (by omega) (by omega) (by omega) (by omega), q 86 (by omega) (by omega) (by omega) (by omega), q 87 (by omega) (by omega) (by omega) (by omega), q 88 (by omega) (by omega) (by omega) (by omega)]
    exact q2
  · rw [q 84 (by omega) (by omega) (by omega) (by omega)]; exact q4
theorem c_mayBe {m : Nat} {h : ab_H} {N : NS} {me mi tab ve la : Int32} {tl : Nat} {at_ wr : Int32} {fe : Nat} {kp : Bool} (hM : h 56 = oM (N_n N) (N_ns N) (N_ra N) (N_se N) me mi tab ve la tl at_ wr fe kp) (hn6 : N_n N ≤ 6) {g8 : Nat → Int32} (h78 : h 78 = .inl (36, g8)) (e9 : ∀ p c, p < N_n N → c < N_n N → g8 (6 * p + c) = nI (wb N p c)) {w : Nat} (hw : w < N_n N) : ab_D Y_M_mayBe [.ref 56, .int (nI w)] m h (some (.int (nI (psb N w (N_n N))))) m (h) := by
  refine ab_C.of (L := [some (.ref 56), some (.int (nI w)), none, none]) rfl rfl (Nat.le_of_ble_eq_true rfl) (fun l => ?_)
  have loop : ∀ kf j, j + kf = N_n N → ab_W Y_M_mayBe none l (fun r m2 h2 => r = some (.int (nI (psb N w (N_n N)))) ∧ m2 = m ∧ h2 = h) 4 [some (.ref 56), some (.int (nI w)), some (.int (nI (psb N w (j)))), some (.int (nI (j)))] [] m (h) (0, 0) := by
    intro kf
    induction kf with
    | zero =>
      intro j hj 
      have hjn : N_n N = j := by omega
      subst hjn
      refine aw_iload_n d_M_mayBe_4 rfl ?_
      refine aw_aload_n d_M_mayBe_5 rfl ?_
      refine aw_get (k := 0) d_M_mayBe_6 cl_Model k_M_118 (by decide) hM rfl ?_
      refine aw_icmp_ge (tgt := 42) d_M_mayBe_9 (by decide) (fun c9 => ?_) (fun c9 => ?_)
      · refine aw_iload_n d_M_mayBe_42 rfl ?_
        refine aw_ireturn d_M_mayBe_43 rfl rfl ?_
        exact ⟨rfl, rfl, rfl⟩
      · exact absurd (Int32.le_refl _) c9
    | succ kf ih =>
      intro j hj 
      refine aw_iload_n d_M_mayBe_4 rfl ?_
      refine aw_aload_n d_M_mayBe_5 rfl ?_
      refine aw_get (k := 0) d_M_mayBe_6 cl_Model k_M_118 (by decide) hM rfl ?_
      refine aw_icmp_ge (tgt := 42) d_M_mayBe_9 (by decide) (fun c9 => ?_) (fun c9 => ?_)
      · exact absurd c9 (nI_ge (by omega) (by omega))
      · refine aw_iload_n d_M_mayBe_12 rfl ?_
        refine aw_aload_n d_M_mayBe_13 rfl ?_
        refine aw_get (k := 33) d_M_mayBe_14 cl_Model k_M_85 (by decide) hM rfl ?_
        refine aw_bipush (v := nI 6) d_M_mayBe_17 (by decide) ?_
        refine aw_iload_n d_M_mayBe_19 rfl ?_
        refine aw_imul d_M_mayBe_20 ?_
        refine aw_iload_n d_M_mayBe_21 rfl ?_
        refine aw_iadd d_M_mayBe_22 ?_
        rw [pk_mul, nI_add]
        refine aw_ialoadN d_M_mayBe_23 h78 (by omega) (by decide) ?_
        rw [e9 w j hw (by omega)]
        refine aw_if_le (tgt := 33) d_M_mayBe_24 (by decide) (fun c24 => ?_) (fun c24 => ?_)
        · refine aw_iconst (v := nI 0) d_M_mayBe_33 (by decide) ?_
          refine aw_ior d_M_mayBe_34 ?_
          refine aw_topi (fun v35 ev35 => ?_)
          refine aw_istore_n (L' := [some (.ref 56), some (.int (nI w)), some (.int v35), some (.int (nI (j)))]) d_M_mayBe_35 ⟨by decide, rfl⟩ rfl ?_
          refine aw_iinc (v := nI ((j) + 1)) (L' := [some (.ref 56), some (.int (nI w)), some (.int v35), some (.int (nI ((j) + 1)))]) d_M_mayBe_36 rfl (nI_1 _) ⟨by decide, rfl⟩ rfl ?_
          refine aw_goto (tgt := 4) d_M_mayBe_39 (by decide) ?_
          have hwb := wb_le hn6 w j
          first
            | (have c24 : wb N w j ≤ 0 := (nI_leI (b := 0) (by omega) (by decide)).mp c24
               rw [show v35 = nI (psb N w (j + 1)) by rw [ev35, fa_or, Nat.or_zero]; exact congrArg nI (if_neg (by omega)).symm]
               exact ih (j + 1) (by omega))
            | (have c24 : 0 < wb N w j := Nat.not_le.mp (fun z => c24 (nI_le (b := 0) z (by decide)))
               rw [show v35 = nI (psb N w (j + 1)) by rw [ev35, b_one (by omega), fa_or]; exact congrArg nI (if_pos c24).symm]
               exact ih (j + 1) (by omega))
        · refine aw_iconst (v := nI 1) d_M_mayBe_27 (by decide) ?_
          refine aw_iload_n d_M_mayBe_28 rfl ?_
          refine aw_ishl d_M_mayBe_29 ?_
          refine aw_goto (tgt := 34) d_M_mayBe_30 (by decide) ?_
          refine aw_ior d_M_mayBe_34 ?_
          refine aw_topi (fun v35 ev35 => ?_)
          refine aw_istore_n (L' := [some (.ref 56), some (.int (nI w)), some (.int v35), some (.int (nI (j)))]) d_M_mayBe_35 ⟨by decide, rfl⟩ rfl ?_
          refine aw_iinc (v := nI ((j) + 1)) (L' := [some (.ref 56), some (.int (nI w)), some (.int v35), some (.int (nI ((j) + 1)))]) d_M_mayBe_36 rfl (nI_1 _) ⟨by decide, rfl⟩ rfl ?_
          refine aw_goto (tgt := 4) d_M_mayBe_39 (by decide) ?_
          have hwb := wb_le hn6 w j
          first
            | (have c24 : wb N w j ≤ 0 := (nI_leI (b := 0) (by omega) (by decide)).mp c24
               rw [show v35 = nI (psb N w (j + 1)) by rw [ev35, fa_or, Nat.or_zero]; exact congrArg nI (if_neg (by omega)).symm]
               exact ih (j + 1) (by omega))
            | (have c24 : 0 < wb N w j := Nat.not_le.mp (fun z => c24 (nI_le (b := 0) z (by decide)))
               rw [show v35 = nI (psb N w (j + 1)) by rw [ev35, b_one (by omega), fa_or]; exact congrArg nI (if_pos c24).symm]
               exact ih (j + 1) (by omega))
  refine aw_iconst (v := nI 0) d_M_mayBe_0 (by decide) ?_
  refine aw_istore_n (L' := [some (.ref 56), some (.int (nI w)), some (.int (nI 0)), none]) d_M_mayBe_1 ⟨by decide, rfl⟩ rfl ?_
  refine aw_iconst (v := nI 0) d_M_mayBe_2 (by decide) ?_
  refine aw_istore_n (L' := [some (.ref 56), some (.int (nI w)), some (.int (nI 0)), some (.int (nI 0))]) d_M_mayBe_3 ⟨by decide, rfl⟩ rfl ?_
  exact loop (N_n N) 0 (by omega)
theorem y_worlds {V : VV} {m c : Nat} {h : ab_H} {S : SS} (hM : PM V c h S) (ok : S_ok S) (hc : c < 900)  : CM V Y_M_worlds [] m c h (fun r S2 => (r, S2) = sp_worlds S) := by
  obtain ⟨⟨tab, la, at_, wr, ve, fs, ft, m0, m1, m2, m3, m4, m5, m6⟩, ⟨n0, n1, n2, n3, n4, n5, n6, n7, n8, n9⟩, q1, q2, q3, q4⟩ := id hM
  have hn6 : N_n (S_N S) ≤ 6 := ok.1.1
  have hnT := nI_toInt (show N_n (S_N S) < 2 ^ 31 by omega)
  obtain ⟨_, ⟨d1, h67⟩, ⟨d2, h68⟩, ⟨d3, h69⟩, _, _, _, _, _, ⟨d8, h78⟩, _⟩ := id q3
  have hwl := ww_le hn6
  refine ab_C.of (L := [some (.ref 56)]) rfl rfl (Nat.le_of_ble_eq_true rfl) (fun l => ?_)
  refine aw_aload_n d_M_worlds_0 rfl ?_
  refine aw_v0 (a := 56) d_M_worlds_1 k_M_293 ok_M_worldMany rfl ⟨rfl, rfl⟩ cl_Model m0 (c_worldMany (N := S_N S) m0 ⟨n0, n1, n2, n3, n4, n5, n6, n7, n8, n9⟩ ok.1 h67 h68 h69 h78) rfl rfl (Nat.le_of_ble_eq_true rfl) (fun r m2 h2 q => ?_)
  obtain ⟨rfl, em, g1, g2, g3, g8, rfl, e9⟩ := q
  rw [em]
  show ab_W _ _ _ _ 4 _ (.int (nI (ww (S_N S))) :: _) _ _ _
  refine aw_ireturn d_M_worlds_4 rfl rfl ?_
  refine ⟨_, S, rfl, ?_, PM.mk2 hc (tab2 := nI (TT (N_n (S_N S)))) (la := la) (at_ := at_) (wr := wr) (ve := ve) (fs := fs) (ft := ft) rfl m1 m3 m4 m5 m6 ⟨n0, n1, n2, n3, n4, n5, n6, n7, n8, n9⟩ q1 q2 q4 (fun k h1 h2 h3 h4 => ?_) ⟨q3.1, ⟨g1, rfl⟩, ⟨g2, rfl⟩, ⟨g3, rfl⟩, q3.2.2.2.2.1, q3.2.2.2.2.2.1, q3.2.2.2.2.2.2.1, q3.2.2.2.2.2.2.2.1, q3.2.2.2.2.2.2.2.2.1, ⟨g8, rfl⟩, q3.2.2.2.2.2.2.2.2.2.2⟩, rfl, fun k hk => ?_⟩
  rotate_left
  · unfold scr at h3
    unfold HK
    rw [ab_set_ne (by omega), HL_ne (by omega) (by omega)]
  · unfold HK
    rw [ab_set_ne (by omega), HL_ne (by omega) (by omega)]
  rfl
theorem y_may {V : VV} {m c : Nat} {h : ab_H} {S : SS} (hM : PM V c h S) (ok : S_ok S) (hc : c < 900) (x w : Int32) : CM V Y_M_may [.int x, .int w] m c h (fun r S2 => (r, S2) = sp_may S x w) := by
  obtain ⟨⟨tab, la, at_, wr, ve, fs, ft, m0, m1, m2, m3, m4, m5, m6⟩, ⟨n0, n1, n2, n3, n4, n5, n6, n7, n8, n9⟩, q1, q2, q3, q4⟩ := id hM
  have hn6 : N_n (S_N S) ≤ 6 := ok.1.1
  have hnT := nI_toInt (show N_n (S_N S) < 2 ^ 31 by omega)
  obtain ⟨_, ⟨d1, h67⟩, ⟨d2, h68⟩, ⟨d3, h69⟩, _, _, _, _, _, ⟨d8, h78⟩, _⟩ := id q3
  have hwl := ww_le hn6
  refine ab_C.of (L := [some (.ref 56), some (.int x), some (.int w)]) rfl rfl (Nat.le_of_ble_eq_true rfl) (fun l => ?_)
  obtain ⟨gma, hma, ama⟩ := id n6
  refine aw_aload_n d_M_may_0 rfl ?_
  refine aw_iload_n d_M_may_1 rfl ?_
  refine aw_v0i (a := 56) d_M_may_2 k_M_140 ok_M_isPerson rfl ⟨rfl, rfl⟩ cl_Model m0 (c_M_isPerson m0 hn6 x) rfl rfl (Nat.le_of_ble_eq_true rfl) ?_
  refine aw_if_eq (tgt := 18) d_M_may_5 (by decide) (fun c5 => ?_) (fun c5 => ?_)
  · refine aw_iconst (v := (-1)) d_M_may_18 (by decide) ?_
    refine aw_ireturn d_M_may_19 rfl rfl ?_
    refine ⟨_, S, rfl, ?_, ⟨⟨tab, la, at_, wr, ve, fs, ft, m0, by omega, by omega, m3, m4, m5, m6⟩, ⟨n0, n1, n2, n3, n4, n5, n6, n7, n8, n9⟩, q1, q2, q3, q4⟩, rfl, fun k _ => rfl⟩
    unfold sp_may
    rw [if_neg]
    intro z
    first
      | exact of_decide_eq_false (ab_bl_0.mp c5) z.1
      | (have := of_decide_eq_false (ab_bl_0.mp c15)
         rw [i64_toInt, tl0, tl1] at this
         exact this z.2)
  · refine aw_iload_n d_M_may_8 rfl ?_
    refine aw_i2l d_M_may_9 ?_
    refine aw_lconst (v := lN 0) d_M_may_10 (by decide) ?_
    refine aw_lconst (v := lN 1) d_M_may_11 (by decide) ?_
    refine aw_s0i d_M_may_12 k_M_121 ok_M_in rfl ⟨rfl, rfl⟩ (c_in w.toInt64 (lN 0) (lN 1)) rfl rfl (Nat.le_of_ble_eq_true rfl) ?_
    refine aw_if_ne (tgt := 20) d_M_may_15 (by decide) (fun c15 => ?_) (fun c15 => ?_)
    · have irx := of_decide_eq_true (ab_bl_1.mp c5)
      have irw : ir w 0 1 := by
        have := of_decide_eq_true (ab_bl_1.mp c15)
        rw [i64_toInt, tl0, tl1] at this
        exact this
      obtain ⟨j, hj, rfl⟩ := irN irx
      refine aw_aload_n d_M_may_20 rfl ?_
      refine aw_v0 (a := 56) d_M_may_21 k_M_293 ok_M_worldMany rfl ⟨rfl, rfl⟩ cl_Model m0 (c_worldMany (N := S_N S) m0 ⟨n0, n1, n2, n3, n4, n5, n6, n7, n8, n9⟩ ok.1 h67 h68 h69 h78) rfl rfl (Nat.le_of_ble_eq_true rfl) (fun r m2 h2 q => ?_)
      obtain ⟨rfl, em, g1, g2, g3, g8, rfl, e9⟩ := q
      rw [em]
      show ab_W _ _ _ _ 24 _ (.int (nI (ww (S_N S))) :: _) _ _ _
      refine aw_pop d_M_may_24 rfl ?_
      refine aw_iload_n d_M_may_25 rfl ?_
      refine aw_if_ne (tgt := 38) d_M_may_26 (by decide) (fun c26 => ?_) (fun c26 => ?_)
      · refine aw_aload_n d_M_may_38 rfl ?_
        refine aw_iload_n d_M_may_39 rfl ?_
        refine aw_v0i (a := 56) d_M_may_40 k_M_296 ok_M_mayBe rfl ⟨rfl, rfl⟩ cl_Model rfl (c_mayBe (N := S_N S) (g8 := g8) rfl hn6 rfl e9 hj) rfl rfl (Nat.le_of_ble_eq_true rfl) ?_
        refine aw_ireturn d_M_may_43 rfl rfl ?_
        refine ⟨_, S, rfl, ?_, PM.mk2 hc (tab2 := nI (TT (N_n (S_N S)))) (la := la) (at_ := at_) (wr := wr) (ve := ve) (fs := fs) (ft := ft) rfl m1 m3 m4 m5 m6 ⟨n0, n1, n2, n3, n4, n5, n6, n7, n8, n9⟩ q1 q2 q4 (fun k h1 h2 h3 h4 => ?_) ⟨q3.1, ⟨g1, rfl⟩, ⟨g2, rfl⟩, ⟨g3, rfl⟩, q3.2.2.2.2.1, q3.2.2.2.2.2.1, q3.2.2.2.2.2.2.1, q3.2.2.2.2.2.2.2.1, q3.2.2.2.2.2.2.2.2.1, ⟨g8, rfl⟩, q3.2.2.2.2.2.2.2.2.2.2⟩, rfl, fun k hk => ?_⟩
        rotate_left
        · unfold scr at h3
          unfold HK
          rw [ab_set_ne (by omega), HL_ne (by omega) (by omega)]
        · unfold HK
          rw [ab_set_ne (by omega), HL_ne (by omega) (by omega)]
        unfold sp_may
        rw [if_pos ⟨irx, irw⟩, cl_nI (by omega)]
        first
          | (rw [if_pos c26]; done)
          | (rw [if_neg c26]; done)
      · refine aw_aload_n d_M_may_29 rfl ?_
        refine aw_get (k := 7) d_M_may_30 cl_Model k_M_28 (by decide) rfl rfl ?_
        refine aw_iload_n d_M_may_33 rfl ?_
        refine aw_ialoadN d_M_may_34 hma (by omega) (by decide) ?_
        rw [ama j hj]
        refine aw_goto (tgt := 43) d_M_may_35 (by decide) ?_
        refine aw_ireturn d_M_may_43 rfl rfl ?_
        refine ⟨_, S, rfl, ?_, PM.mk2 hc (tab2 := nI (TT (N_n (S_N S)))) (la := la) (at_ := at_) (wr := wr) (ve := ve) (fs := fs) (ft := ft) rfl m1 m3 m4 m5 m6 ⟨n0, n1, n2, n3, n4, n5, n6, n7, n8, n9⟩ q1 q2 q4 (fun k h1 h2 h3 h4 => ?_) ⟨q3.1, ⟨g1, rfl⟩, ⟨g2, rfl⟩, ⟨g3, rfl⟩, q3.2.2.2.2.1, q3.2.2.2.2.2.1, q3.2.2.2.2.2.2.1, q3.2.2.2.2.2.2.2.1, q3.2.2.2.2.2.2.2.2.1, ⟨g8, rfl⟩, q3.2.2.2.2.2.2.2.2.2.2⟩, rfl, fun k hk => ?_⟩
        rotate_left
        · unfold scr at h3
          unfold HK
          rw [ab_set_ne (by omega), HL_ne (by omega) (by omega)]
        · unfold HK
          rw [ab_set_ne (by omega), HL_ne (by omega) (by omega)]
        unfold sp_may
        rw [if_pos ⟨irx, irw⟩, cl_nI (by omega)]
        first
          | (rw [if_pos c26]; done)
          | (rw [if_neg c26]; done)
    · refine aw_iconst (v := (-1)) d_M_may_18 (by decide) ?_
      refine aw_ireturn d_M_may_19 rfl rfl ?_
      refine ⟨_, S, rfl, ?_, ⟨⟨tab, la, at_, wr, ve, fs, ft, m0, by omega, by omega, m3, m4, m5, m6⟩, ⟨n0, n1, n2, n3, n4, n5, n6, n7, n8, n9⟩, q1, q2, q3, q4⟩, rfl, fun k _ => rfl⟩
      unfold sp_may
      rw [if_neg]
      intro z
      first
        | exact of_decide_eq_false (ab_bl_0.mp c5) z.1
        | (have := of_decide_eq_false (ab_bl_0.mp c15)
           rw [i64_toInt, tl0, tl1] at this
           exact this z.2)
theorem y_sure {V : VV} {m c : Nat} {h : ab_H} {S : SS} (hM : PM V c h S) (ok : S_ok S) (hc : c < 900) (x : Int32) : CM V Y_M_sure [.int x] m c h (fun r S2 => (r, S2) = sp_sure S x) := by
  obtain ⟨⟨tab, la, at_, wr, ve, fs, ft, m0, m1, m2, m3, m4, m5, m6⟩, ⟨n0, n1, n2, n3, n4, n5, n6, n7, n8, n9⟩, q1, q2, q3, q4⟩ := id hM
  have hn6 : N_n (S_N S) ≤ 6 := ok.1.1
  have hnT := nI_toInt (show N_n (S_N S) < 2 ^ 31 by omega)
  obtain ⟨_, ⟨d1, h67⟩, ⟨d2, h68⟩, ⟨d3, h69⟩, _, _, _, _, _, ⟨d8, h78⟩, _⟩ := id q3
  have hwl := ww_le hn6
  refine ab_C.of (L := [some (.ref 56), some (.int x), none]) rfl rfl (Nat.le_of_ble_eq_true rfl) (fun l => ?_)
  refine aw_aload_n d_M_sure_0 rfl ?_
  refine aw_iload_n d_M_sure_1 rfl ?_
  refine aw_v0i (a := 56) d_M_sure_2 k_M_140 ok_M_isPerson rfl ⟨rfl, rfl⟩ cl_Model m0 (c_M_isPerson m0 hn6 x) rfl rfl (Nat.le_of_ble_eq_true rfl) ?_
  refine aw_if_ne (tgt := 10) d_M_sure_5 (by decide) (fun c5 => ?_) (fun c5 => ?_)
  · have irx := of_decide_eq_true (ab_bl_1.mp c5)
    obtain ⟨j, hj, rfl⟩ := irN irx
    have hb6 := psb_lt (S_N S) j _ hn6
    refine aw_aload_n d_M_sure_10 rfl ?_
    refine aw_v0 (a := 56) d_M_sure_11 k_M_293 ok_M_worldMany rfl ⟨rfl, rfl⟩ cl_Model m0 (c_worldMany (N := S_N S) m0 ⟨n0, n1, n2, n3, n4, n5, n6, n7, n8, n9⟩ ok.1 h67 h68 h69 h78) rfl rfl (Nat.le_of_ble_eq_true rfl) (fun r m2 h2 q => ?_)
    obtain ⟨rfl, em, g1, g2, g3, g8, rfl, e9⟩ := q
    rw [em]
    show ab_W _ _ _ _ 14 _ (.int (nI (ww (S_N S))) :: _) _ _ _
    refine aw_pop d_M_sure_14 rfl ?_
    refine aw_aload_n d_M_sure_15 rfl ?_
    refine aw_iload_n d_M_sure_16 rfl ?_
    refine aw_v0i (a := 56) d_M_sure_17 k_M_296 ok_M_mayBe rfl ⟨rfl, rfl⟩ cl_Model rfl (c_mayBe (N := S_N S) (g8 := g8) rfl hn6 rfl e9 hj) rfl rfl (Nat.le_of_ble_eq_true rfl) ?_
    refine aw_istore_n (L' := [some (.ref 56), some (.int (nI j)), some (.int (nI (psb (S_N S) j (N_n (S_N S)))))]) d_M_sure_20 ⟨by decide, rfl⟩ rfl ?_
    refine aw_iload_n d_M_sure_21 rfl ?_
    refine aw_s0i d_M_sure_22 k_M_193 ok_M_size rfl ⟨rfl, rfl⟩ (c_size hb6) rfl rfl (Nat.le_of_ble_eq_true rfl) ?_
    refine aw_iconst (v := nI 1) d_M_sure_25 (by decide) ?_
    refine aw_icmp_ne (tgt := 36) d_M_sure_26 (by decide) (fun c26 => ?_) (fun c26 => ?_)
    · refine aw_bipush (v := (-4)) d_M_sure_36 (by decide) ?_
      refine aw_ireturn d_M_sure_38 rfl rfl ?_
      refine ⟨_, S, rfl, ?_, PM.mk2 hc (tab2 := nI (TT (N_n (S_N S)))) (la := la) (at_ := at_) (wr := wr) (ve := ve) (fs := fs) (ft := ft) rfl m1 m3 m4 m5 m6 ⟨n0, n1, n2, n3, n4, n5, n6, n7, n8, n9⟩ q1 q2 q4 (fun k h1 h2 h3 h4 => ?_) ⟨q3.1, ⟨g1, rfl⟩, ⟨g2, rfl⟩, ⟨g3, rfl⟩, q3.2.2.2.2.1, q3.2.2.2.2.2.1, q3.2.2.2.2.2.2.1, q3.2.2.2.2.2.2.2.1, q3.2.2.2.2.2.2.2.2.1, ⟨g8, rfl⟩, q3.2.2.2.2.2.2.2.2.2.2⟩, rfl, fun k hk => ?_⟩
      rotate_left
      · unfold scr at h3
        unfold HK
        rw [ab_set_ne (by omega), HL_ne (by omega) (by omega)]
      · unfold HK
        rw [ab_set_ne (by omega), HL_ne (by omega) (by omega)]
      unfold sp_sure
      have hp6 := pop_le (psb (S_N S) j (N_n (S_N S)))
      rw [if_pos irx, cl_nI (by omega)]
      first
        | (rw [if_pos ((nI_eq (b := 1) (by omega) (by decide)).mp c26)]; done)
        | (rw [if_neg (fun z => c26 (by rw [z]))]; done)
    · refine aw_iload_n d_M_sure_29 rfl ?_
      refine aw_s0i d_M_sure_30 k_M_199 ok_M_lowest rfl ⟨rfl, rfl⟩ (c_lowest hb6 (fun z => by rw [z] at c26; exact absurd c26 (by decide))) rfl rfl (Nat.le_of_ble_eq_true rfl) ?_
      refine aw_goto (tgt := 38) d_M_sure_33 (by decide) ?_
      refine aw_ireturn d_M_sure_38 rfl rfl ?_
      refine ⟨_, S, rfl, ?_, PM.mk2 hc (tab2 := nI (TT (N_n (S_N S)))) (la := la) (at_ := at_) (wr := wr) (ve := ve) (fs := fs) (ft := ft) rfl m1 m3 m4 m5 m6 ⟨n0, n1, n2, n3, n4, n5, n6, n7, n8, n9⟩ q1 q2 q4 (fun k h1 h2 h3 h4 => ?_) ⟨q3.1, ⟨g1, rfl⟩, ⟨g2, rfl⟩, ⟨g3, rfl⟩, q3.2.2.2.2.1, q3.2.2.2.2.2.1, q3.2.2.2.2.2.2.1, q3.2.2.2.2.2.2.2.1, q3.2.2.2.2.2.2.2.2.1, ⟨g8, rfl⟩, q3.2.2.2.2.2.2.2.2.2.2⟩, rfl, fun k hk => ?_⟩
      rotate_left
      · unfold scr at h3
        unfold HK
        rw [ab_set_ne (by omega), HL_ne (by omega) (by omega)]
      · unfold HK
        rw [ab_set_ne (by omega), HL_ne (by omega) (by omega)]
      unfold sp_sure
      have hp6 := pop_le (psb (S_N S) j (N_n (S_N S)))
      rw [if_pos irx, cl_nI (by omega)]
      first
        | (rw [if_pos ((nI_eq (b := 1) (by omega) (by decide)).mp c26)]; done)
        | (rw [if_neg (fun z => c26 (by rw [z]))]; done)
  · refine aw_iconst (v := (-1)) d_M_sure_8 (by decide) ?_
    refine aw_ireturn d_M_sure_9 rfl rfl ?_
    refine ⟨_, S, rfl, ?_, ⟨⟨tab, la, at_, wr, ve, fs, ft, m0, by omega, by omega, m3, m4, m5, m6⟩, ⟨n0, n1, n2, n3, n4, n5, n6, n7, n8, n9⟩, q1, q2, q3, q4⟩, rfl, fun k _ => rfl⟩
    unfold sp_sure
    rw [if_neg (of_decide_eq_false (ab_bl_0.mp c5))]
theorem y_next {V : VV} {m c : Nat} {h : ab_H} {S : SS} (hM : PM V c h S) (ok : S_ok S) (hc : c < 900) (w : Int32) : CM V Y_M_next [.int w] m c h (fun r S2 => (r, S2) = sp_next S w) := by
  obtain ⟨⟨tab, la, at_, wr, ve, fs, ft, m0, m1, m2, m3, m4, m5, m6⟩, ⟨n0, n1, n2, n3, n4, n5, n6, n7, n8, n9⟩, q1, q2, q3, q4⟩ := id hM
  have hn6 : N_n (S_N S) ≤ 6 := ok.1.1
  have hnT := nI_toInt (show N_n (S_N S) < 2 ^ 31 by omega)
  obtain ⟨_, ⟨d1, h67⟩, ⟨d2, h68⟩, ⟨d3, h69⟩, _, _, _, _, _, ⟨d8, h78⟩, _⟩ := id q3
  have hwl := ww_le hn6
  refine ab_C.of (L := [some (.ref 56), some (.int w), none, none, none, none, none]) rfl rfl (Nat.le_of_ble_eq_true rfl) (fun l => ?_)
  refine aw_iload_n d_M_next_0 rfl ?_
  refine aw_i2l d_M_next_1 ?_
  refine aw_lconst (v := lN 0) d_M_next_2 (by decide) ?_
  refine aw_lconst (v := lN 1) d_M_next_3 (by decide) ?_
  refine aw_s0i d_M_next_4 k_M_121 ok_M_in rfl ⟨rfl, rfl⟩ (c_in w.toInt64 (lN 0) (lN 1)) rfl rfl (Nat.le_of_ble_eq_true rfl) ?_
  refine aw_if_ne (tgt := 12) d_M_next_7 (by decide) (fun c7 => ?_) (fun c7 => ?_)
  · have irw : ir w 0 1 := by
      have := of_decide_eq_true (ab_bl_1.mp c7)
      rw [i64_toInt, tl0, tl1] at this
      exact this
    refine aw_aload_n d_M_next_12 rfl ?_
    refine aw_get (k := 0) d_M_next_13 cl_Model k_M_118 (by decide) m0 rfl ?_
    refine aw_if_ne (tgt := 22) d_M_next_16 (by decide) (fun c16 => ?_) (fun c16 => ?_)
    · have n0' : ¬ N_n (S_N S) = 0 := fun z => c16 (by rw [z]; rfl)
      refine aw_aload_n d_M_next_22 rfl ?_
      refine aw_v0 (a := 56) d_M_next_23 k_M_293 ok_M_worldMany rfl ⟨rfl, rfl⟩ cl_Model m0 (c_worldMany (N := S_N S) m0 ⟨n0, n1, n2, n3, n4, n5, n6, n7, n8, n9⟩ ok.1 h67 h68 h69 h78) rfl rfl (Nat.le_of_ble_eq_true rfl) (fun r m2 h2 q => ?_)
      obtain ⟨rfl, em, g1, g2, g3, g8, rfl, e9⟩ := q
      rw [em]
      show ab_W _ _ _ _ 26 _ (.int (nI (ww (S_N S))) :: _) _ _ _
      refine aw_if_ne (tgt := 32) d_M_next_26 (by decide) (fun c26 => ?_) (fun c26 => ?_)
      · have w0 : ¬ ww (S_N S) = 0 := fun z => c26 (by rw [z]; rfl)
        refine aw_bipush (v := (-4)) d_M_next_32 (by decide) ?_
        refine aw_istore_n (L' := [some (.ref 56), some (.int w), some (.int (-4)), none, none, none, none]) d_M_next_34 ⟨by decide, rfl⟩ rfl ?_
        refine aw_ldc (v := nI 1000000000) d_M_next_35 k_M_242 ?_
        refine aw_istore_n (L' := [some (.ref 56), some (.int w), some (.int (-4)), some (.int (nI 1000000000)), none, none, none]) d_M_next_37 ⟨by decide, rfl⟩ rfl ?_
        refine aw_iconst (v := nI 0) d_M_next_38 (by decide) ?_
        refine aw_istore (L' := [some (.ref 56), some (.int w), some (.int (-4)), some (.int (nI 1000000000)), some (.int (nI 0)), none, none]) d_M_next_39 ⟨by decide, rfl⟩ rfl ?_
        have loopu : ∀ kf u (bs : Int32) (ls : Nat), u + kf = N_n (S_N S) → ls ≤ 1000000000 → ((u = 0 ∧ bs = -4 ∧ ls = 1000000000) ∨ (0 < u ∧ bs = nI (nxb (S_N S) u).1 ∧ ls = (nxb (S_N S) u).2)) → ab_W Y_M_next none l (fun r m2 h2 => ∃ (v : Int32) (S2 : SS), r = some (.int v) ∧ (v, S2) = sp_next S w ∧ PM V (c + 1) h2 S2 ∧ m2 = m ∧ ∀ k, (k < 56 ∨ 88 < k) → h2 k = h k) 41 [some (.ref 56), some (.int w), some (.int bs), some (.int (nI ls)), some (.int (nI (u))), none, none] [] m (HK h (oM (N_n (S_N S)) (N_ns (S_N S)) (N_ra (S_N S)) (N_se (S_N S)) (N_me (S_N S)) (N_mi (S_N S)) (nI (TT (N_n (S_N S)))) (nI ve) la (S_tl S) at_ wr (N_fe (S_N S)) (S_K S).isSome) g1 g2 g3 g8) (0, 0) := by
          intro kf
          induction kf with
          | zero =>
            intro u bs ls hu hls es
            have hun : N_n (S_N S) = u := by omega
            subst hun
            refine aw_iload d_M_next_41 rfl ?_
            refine aw_aload_n d_M_next_43 rfl ?_
            refine aw_get (k := 0) d_M_next_44 cl_Model k_M_118 (by decide) rfl rfl ?_
            refine aw_icmp_ge (tgt := 141) d_M_next_47 (by decide) (fun c47 => ?_) (fun c47 => ?_)
            · refine aw_iload_n d_M_next_141 rfl ?_
              refine aw_if_ne (tgt := 149) d_M_next_142 (by decide) (fun c142 => ?_) (fun c142 => ?_)
              · refine aw_iload_n d_M_next_149 rfl ?_
                refine aw_ireturn d_M_next_150 rfl rfl ?_
                refine ⟨_, S, rfl, ?_, PM.mk2 hc (tab2 := nI (TT (N_n (S_N S)))) (la := la) (at_ := at_) (wr := wr) (ve := ve) (fs := fs) (ft := ft) rfl m1 m3 m4 m5 m6 ⟨n0, n1, n2, n3, n4, n5, n6, n7, n8, n9⟩ q1 q2 q4 (fun k h1 h2 h3 h4 => ?_) ⟨q3.1, ⟨g1, rfl⟩, ⟨g2, rfl⟩, ⟨g3, rfl⟩, q3.2.2.2.2.1, q3.2.2.2.2.2.1, q3.2.2.2.2.2.2.1, q3.2.2.2.2.2.2.2.1, q3.2.2.2.2.2.2.2.2.1, ⟨g8, rfl⟩, q3.2.2.2.2.2.2.2.2.2.2⟩, rfl, fun k hk => ?_⟩
                rotate_left
                · unfold scr at h3
                  unfold HK
                  rw [ab_set_ne (by omega), HL_ne (by omega) (by omega)]
                · unfold HK
                  rw [ab_set_ne (by omega), HL_ne (by omega) (by omega)]
                unfold sp_next
                rcases es with ⟨e1, e2, e3⟩ | ⟨e1, e2, e3⟩
                · exact absurd e1 n0'
                rw [if_pos irw, if_neg n0', if_neg w0]
                first
                  | (rw [if_pos c142, e2]; done)
                  | (rw [if_neg c142, e3]; done)
              · refine aw_iload_n d_M_next_145 rfl ?_
                refine aw_goto (tgt := 150) d_M_next_146 (by decide) ?_
                refine aw_ireturn d_M_next_150 rfl rfl ?_
                refine ⟨_, S, rfl, ?_, PM.mk2 hc (tab2 := nI (TT (N_n (S_N S)))) (la := la) (at_ := at_) (wr := wr) (ve := ve) (fs := fs) (ft := ft) rfl m1 m3 m4 m5 m6 ⟨n0, n1, n2, n3, n4, n5, n6, n7, n8, n9⟩ q1 q2 q4 (fun k h1 h2 h3 h4 => ?_) ⟨q3.1, ⟨g1, rfl⟩, ⟨g2, rfl⟩, ⟨g3, rfl⟩, q3.2.2.2.2.1, q3.2.2.2.2.2.1, q3.2.2.2.2.2.2.1, q3.2.2.2.2.2.2.2.1, q3.2.2.2.2.2.2.2.2.1, ⟨g8, rfl⟩, q3.2.2.2.2.2.2.2.2.2.2⟩, rfl, fun k hk => ?_⟩
                rotate_left
                · unfold scr at h3
                  unfold HK
                  rw [ab_set_ne (by omega), HL_ne (by omega) (by omega)]
                · unfold HK
                  rw [ab_set_ne (by omega), HL_ne (by omega) (by omega)]
                unfold sp_next
                rcases es with ⟨e1, e2, e3⟩ | ⟨e1, e2, e3⟩
                · exact absurd e1 n0'
                rw [if_pos irw, if_neg n0', if_neg w0]
                first
                  | (rw [if_pos c142, e2]; done)
                  | (rw [if_neg c142, e3]; done)
            · exact absurd (Int32.le_refl _) c47
          | succ kf ihu =>
            intro u bs ls hu hls es
            refine aw_iload d_M_next_41 rfl ?_
            refine aw_aload_n d_M_next_43 rfl ?_
            refine aw_get (k := 0) d_M_next_44 cl_Model k_M_118 (by decide) rfl rfl ?_
            refine aw_icmp_ge (tgt := 141) d_M_next_47 (by decide) (fun c47 => ?_) (fun c47 => ?_)
            · exact absurd c47 (nI_ge (by omega) (by omega))
            · refine aw_iconst (v := nI 0) d_M_next_50 (by decide) ?_
              refine aw_istore (L' := [some (.ref 56), some (.int w), some (.int bs), some (.int (nI ls)), some (.int (nI (u))), some (.int (nI 0)), none]) d_M_next_51 ⟨by decide, rfl⟩ rfl ?_
              refine aw_iconst (v := nI 0) d_M_next_53 (by decide) ?_
              refine aw_istore (L' := [some (.ref 56), some (.int w), some (.int bs), some (.int (nI ls)), some (.int (nI (u))), some (.int (nI 0)), some (.int (nI 0))]) d_M_next_54 ⟨by decide, rfl⟩ rfl ?_
              have loopi : ∀ ke j, j + ke = N_n (S_N S) → ab_W Y_M_next none l (fun r m2 h2 => ∃ (v : Int32) (S2 : SS), r = some (.int v) ∧ (v, S2) = sp_next S w ∧ PM V (c + 1) h2 S2 ∧ m2 = m ∧ ∀ k, (k < 56 ∨ 88 < k) → h2 k = h k) 56 [some (.ref 56), some (.int w), some (.int bs), some (.int (nI ls)), some (.int (nI u)), some (.int (nI (lwm (S_N S) u (j)))), some (.int (nI (j)))] [] m (HK h (oM (N_n (S_N S)) (N_ns (S_N S)) (N_ra (S_N S)) (N_se (S_N S)) (N_me (S_N S)) (N_mi (S_N S)) (nI (TT (N_n (S_N S)))) (nI ve) la (S_tl S) at_ wr (N_fe (S_N S)) (S_K S).isSome) g1 g2 g3 g8) (0, 0) := by
                intro ke
                induction ke with
                | zero =>
                  intro j hj 
                  have hjn : N_n (S_N S) = j := by omega
                  subst hjn
                  refine aw_iload d_M_next_56 rfl ?_
                  refine aw_aload_n d_M_next_58 rfl ?_
                  refine aw_get (k := 0) d_M_next_59 cl_Model k_M_118 (by decide) rfl rfl ?_
                  refine aw_icmp_ge (tgt := 109) d_M_next_62 (by decide) (fun c62 => ?_) (fun c62 => ?_)
                  · refine aw_iload d_M_next_109 rfl ?_
                    refine aw_iload_n d_M_next_111 rfl ?_
                    refine aw_icmp_ge (tgt := 120) d_M_next_112 (by decide) (fun c112 => ?_) (fun c112 => ?_)
                    · refine aw_iload_n d_M_next_120 rfl ?_
                      refine aw_istore_n (L' := [some (.ref 56), some (.int w), some (.int bs), some (.int (nI ls)), some (.int (nI u)), some (.int (nI (lwm (S_N S) u (N_n (S_N S))))), some (.int (nI (N_n (S_N S))))]) d_M_next_121 ⟨by decide, rfl⟩ rfl ?_
                      refine aw_iload d_M_next_122 rfl ?_
                      refine aw_iload_n d_M_next_124 rfl ?_
                      refine aw_icmp_ge (tgt := 133) d_M_next_125 (by decide) (fun c125 => ?_) (fun c125 => ?_)
                      · refine aw_iload_n d_M_next_133 rfl ?_
                        refine aw_istore_n (L' := [some (.ref 56), some (.int w), some (.int bs), some (.int (nI ls)), some (.int (nI u)), some (.int (nI (lwm (S_N S) u (N_n (S_N S))))), some (.int (nI (N_n (S_N S))))]) d_M_next_134 ⟨by decide, rfl⟩ rfl ?_
                        refine aw_iinc (v := nI (u + 1)) (L' := [some (.ref 56), some (.int w), some (.int bs), some (.int (nI ls)), some (.int (nI (u + 1))), some (.int (nI (lwm (S_N S) u (N_n (S_N S))))), some (.int (nI (N_n (S_N S))))]) d_M_next_135 rfl (nI_1 _) ⟨by decide, rfl⟩ rfl ?_
                        refine aw_goto (tgt := 41) d_M_next_138 (by decide) ?_
                        have hl := lwm_le hn6 u (N_n (S_N S))
                        first
                          | exact absurd c125 c112
                          | exact absurd c112 c125
                          | (refine aw_drop 5 (aw_drop 6 (ihu (u + 1) _ _ (by omega) hls (Or.inr ?_)))
                             rcases es with ⟨e1, e2, e3⟩ | ⟨e1, e2, e3⟩
                             · subst e3; exact absurd c112 (nI_ge (by omega) (by omega))
                             · have c112 := (nI_leI (by omega) (by omega)).mp c112
                               have e : nxb (S_N S) (u + 1) = nxb (S_N S) u := if_neg (by omega)
                               rw [e]; exact ⟨by omega, e2, e3⟩)
                          | (refine aw_drop 5 (aw_drop 6 (ihu (u + 1) _ (lwm (S_N S) u (N_n (S_N S))) (by omega) (by omega) (Or.inr ?_)))
                             have c112 : lwm (S_N S) u (N_n (S_N S)) < ls := Nat.not_le.mp (fun z => c112 (nI_le z (by omega)))
                             rcases es with ⟨e1, e2, e3⟩ | ⟨e1, e2, e3⟩
                             · subst e1
                               have e : nxb (S_N S) (0 + 1) = (0, lwm (S_N S) 0 (N_n (S_N S))) := if_neg (Nat.lt_irrefl _)
                               rw [e]; exact ⟨by omega, rfl, rfl⟩
                             · rw [e3] at c112
                               have e : nxb (S_N S) (u + 1) = (u, lwm (S_N S) u (N_n (S_N S))) := if_pos c112
                               rw [e]; exact ⟨by omega, rfl, rfl⟩)
                      · refine aw_iload d_M_next_128 rfl ?_
                        refine aw_goto (tgt := 134) d_M_next_130 (by decide) ?_
                        refine aw_istore_n (L' := [some (.ref 56), some (.int w), some (.int bs), some (.int (nI (lwm (S_N S) u (N_n (S_N S))))), some (.int (nI u)), some (.int (nI (lwm (S_N S) u (N_n (S_N S))))), some (.int (nI (N_n (S_N S))))]) d_M_next_134 ⟨by decide, rfl⟩ rfl ?_
                        refine aw_iinc (v := nI (u + 1)) (L' := [some (.ref 56), some (.int w), some (.int bs), some (.int (nI (lwm (S_N S) u (N_n (S_N S))))), some (.int (nI (u + 1))), some (.int (nI (lwm (S_N S) u (N_n (S_N S))))), some (.int (nI (N_n (S_N S))))]) d_M_next_135 rfl (nI_1 _) ⟨by decide, rfl⟩ rfl ?_
                        refine aw_goto (tgt := 41) d_M_next_138 (by decide) ?_
                        have hl := lwm_le hn6 u (N_n (S_N S))
                        first
                          | exact absurd c125 c112
                          | exact absurd c112 c125
                          | (refine aw_drop 5 (aw_drop 6 (ihu (u + 1) _ _ (by omega) hls (Or.inr ?_)))
                             rcases es with ⟨e1, e2, e3⟩ | ⟨e1, e2, e3⟩
                             · subst e3; exact absurd c112 (nI_ge (by omega) (by omega))
                             · have c112 := (nI_leI (by omega) (by omega)).mp c112
                               have e : nxb (S_N S) (u + 1) = nxb (S_N S) u := if_neg (by omega)
                               rw [e]; exact ⟨by omega, e2, e3⟩)
                          | (refine aw_drop 5 (aw_drop 6 (ihu (u + 1) _ (lwm (S_N S) u (N_n (S_N S))) (by omega) (by omega) (Or.inr ?_)))
                             have c112 : lwm (S_N S) u (N_n (S_N S)) < ls := Nat.not_le.mp (fun z => c112 (nI_le z (by omega)))
                             rcases es with ⟨e1, e2, e3⟩ | ⟨e1, e2, e3⟩
                             · subst e1
                               have e : nxb (S_N S) (0 + 1) = (0, lwm (S_N S) 0 (N_n (S_N S))) := if_neg (Nat.lt_irrefl _)
                               rw [e]; exact ⟨by omega, rfl, rfl⟩
                             · rw [e3] at c112
                               have e : nxb (S_N S) (u + 1) = (u, lwm (S_N S) u (N_n (S_N S))) := if_pos c112
                               rw [e]; exact ⟨by omega, rfl, rfl⟩)
                    · refine aw_iload d_M_next_115 rfl ?_
                      refine aw_goto (tgt := 121) d_M_next_117 (by decide) ?_
                      refine aw_istore_n (L' := [some (.ref 56), some (.int w), some (.int (nI u)), some (.int (nI ls)), some (.int (nI u)), some (.int (nI (lwm (S_N S) u (N_n (S_N S))))), some (.int (nI (N_n (S_N S))))]) d_M_next_121 ⟨by decide, rfl⟩ rfl ?_
                      refine aw_iload d_M_next_122 rfl ?_
                      refine aw_iload_n d_M_next_124 rfl ?_
                      refine aw_icmp_ge (tgt := 133) d_M_next_125 (by decide) (fun c125 => ?_) (fun c125 => ?_)
                      · refine aw_iload_n d_M_next_133 rfl ?_
                        refine aw_istore_n (L' := [some (.ref 56), some (.int w), some (.int (nI u)), some (.int (nI ls)), some (.int (nI u)), some (.int (nI (lwm (S_N S) u (N_n (S_N S))))), some (.int (nI (N_n (S_N S))))]) d_M_next_134 ⟨by decide, rfl⟩ rfl ?_
                        refine aw_iinc (v := nI (u + 1)) (L' := [some (.ref 56), some (.int w), some (.int (nI u)), some (.int (nI ls)), some (.int (nI (u + 1))), some (.int (nI (lwm (S_N S) u (N_n (S_N S))))), some (.int (nI (N_n (S_N S))))]) d_M_next_135 rfl (nI_1 _) ⟨by decide, rfl⟩ rfl ?_
                        refine aw_goto (tgt := 41) d_M_next_138 (by decide) ?_
                        have hl := lwm_le hn6 u (N_n (S_N S))
                        first
                          | exact absurd c125 c112
                          | exact absurd c112 c125
                          | (refine aw_drop 5 (aw_drop 6 (ihu (u + 1) _ _ (by omega) hls (Or.inr ?_)))
                             rcases es with ⟨e1, e2, e3⟩ | ⟨e1, e2, e3⟩
                             · subst e3; exact absurd c112 (nI_ge (by omega) (by omega))
                             · have c112 := (nI_leI (by omega) (by omega)).mp c112
                               have e : nxb (S_N S) (u + 1) = nxb (S_N S) u := if_neg (by omega)
                               rw [e]; exact ⟨by omega, e2, e3⟩)
                          | (refine aw_drop 5 (aw_drop 6 (ihu (u + 1) _ (lwm (S_N S) u (N_n (S_N S))) (by omega) (by omega) (Or.inr ?_)))
                             have c112 : lwm (S_N S) u (N_n (S_N S)) < ls := Nat.not_le.mp (fun z => c112 (nI_le z (by omega)))
                             rcases es with ⟨e1, e2, e3⟩ | ⟨e1, e2, e3⟩
                             · subst e1
                               have e : nxb (S_N S) (0 + 1) = (0, lwm (S_N S) 0 (N_n (S_N S))) := if_neg (Nat.lt_irrefl _)
                               rw [e]; exact ⟨by omega, rfl, rfl⟩
                             · rw [e3] at c112
                               have e : nxb (S_N S) (u + 1) = (u, lwm (S_N S) u (N_n (S_N S))) := if_pos c112
                               rw [e]; exact ⟨by omega, rfl, rfl⟩)
                      · refine aw_iload d_M_next_128 rfl ?_
                        refine aw_goto (tgt := 134) d_M_next_130 (by decide) ?_
                        refine aw_istore_n (L' := [some (.ref 56), some (.int w), some (.int (nI u)), some (.int (nI (lwm (S_N S) u (N_n (S_N S))))), some (.int (nI u)), some (.int (nI (lwm (S_N S) u (N_n (S_N S))))), some (.int (nI (N_n (S_N S))))]) d_M_next_134 ⟨by decide, rfl⟩ rfl ?_
                        refine aw_iinc (v := nI (u + 1)) (L' := [some (.ref 56), some (.int w), some (.int (nI u)), some (.int (nI (lwm (S_N S) u (N_n (S_N S))))), some (.int (nI (u + 1))), some (.int (nI (lwm (S_N S) u (N_n (S_N S))))), some (.int (nI (N_n (S_N S))))]) d_M_next_135 rfl (nI_1 _) ⟨by decide, rfl⟩ rfl ?_
                        refine aw_goto (tgt := 41) d_M_next_138 (by decide) ?_
                        have hl := lwm_le hn6 u (N_n (S_N S))
                        first
                          | exact absurd c125 c112
                          | exact absurd c112 c125
                          | (refine aw_drop 5 (aw_drop 6 (ihu (u + 1) _ _ (by omega) hls (Or.inr ?_)))
                             rcases es with ⟨e1, e2, e3⟩ | ⟨e1, e2, e3⟩
                             · subst e3; exact absurd c112 (nI_ge (by omega) (by omega))
                             · have c112 := (nI_leI (by omega) (by omega)).mp c112
                               have e : nxb (S_N S) (u + 1) = nxb (S_N S) u := if_neg (by omega)
                               rw [e]; exact ⟨by omega, e2, e3⟩)
                          | (refine aw_drop 5 (aw_drop 6 (ihu (u + 1) _ (lwm (S_N S) u (N_n (S_N S))) (by omega) (by omega) (Or.inr ?_)))
                             have c112 : lwm (S_N S) u (N_n (S_N S)) < ls := Nat.not_le.mp (fun z => c112 (nI_le z (by omega)))
                             rcases es with ⟨e1, e2, e3⟩ | ⟨e1, e2, e3⟩
                             · subst e1
                               have e : nxb (S_N S) (0 + 1) = (0, lwm (S_N S) 0 (N_n (S_N S))) := if_neg (Nat.lt_irrefl _)
                               rw [e]; exact ⟨by omega, rfl, rfl⟩
                             · rw [e3] at c112
                               have e : nxb (S_N S) (u + 1) = (u, lwm (S_N S) u (N_n (S_N S))) := if_pos c112
                               rw [e]; exact ⟨by omega, rfl, rfl⟩)
                  · exact absurd (Int32.le_refl _) c62
                | succ ke ihi =>
                  intro j hj 
                  refine aw_iload d_M_next_56 rfl ?_
                  refine aw_aload_n d_M_next_58 rfl ?_
                  refine aw_get (k := 0) d_M_next_59 cl_Model k_M_118 (by decide) rfl rfl ?_
                  refine aw_icmp_ge (tgt := 109) d_M_next_62 (by decide) (fun c62 => ?_) (fun c62 => ?_)
                  · exact absurd c62 (nI_ge (by omega) (by omega))
                  · refine aw_aload_n d_M_next_65 rfl ?_
                    refine aw_get (k := 33) d_M_next_66 cl_Model k_M_85 (by decide) rfl rfl ?_
                    refine aw_bipush (v := nI 6) d_M_next_69 (by decide) ?_
                    refine aw_iload d_M_next_71 rfl ?_
                    refine aw_imul d_M_next_73 ?_
                    refine aw_iload d_M_next_74 rfl ?_
                    refine aw_iadd d_M_next_76 ?_
                    rw [pk_mul, nI_add]
                    refine aw_ialoadN d_M_next_77 rfl (by omega) (by decide) ?_
                    rw [e9 u j (by omega) (by omega)]
                    refine aw_iload d_M_next_78 rfl ?_
                    refine aw_icmp_le (tgt := 99) d_M_next_80 (by decide) (fun c80 => ?_) (fun c80 => ?_)
                    · refine aw_iload d_M_next_99 rfl ?_
                      refine aw_istore (L' := [some (.ref 56), some (.int w), some (.int bs), some (.int (nI ls)), some (.int (nI u)), some (.int (nI (lwm (S_N S) u (j)))), some (.int (nI (j)))]) d_M_next_101 ⟨by decide, rfl⟩ rfl ?_
                      refine aw_iinc (v := nI ((j) + 1)) (L' := [some (.ref 56), some (.int w), some (.int bs), some (.int (nI ls)), some (.int (nI u)), some (.int (nI (lwm (S_N S) u (j)))), some (.int (nI ((j) + 1)))]) d_M_next_103 rfl (nI_1 _) ⟨by decide, rfl⟩ rfl ?_
                      refine aw_goto (tgt := 56) d_M_next_106 (by decide) ?_
                      have hwb := wb_le hn6 u j
                      have hlw := lwm_le hn6 u j
                      first
                        | (rw [show lwm (S_N S) u j = lwm (S_N S) u (j + 1) from (if_neg (by have := (nI_leI (by omega) (by omega)).mp c80; omega)).symm]
                           exact ihi (j + 1) (by omega))
                        | (rw [show wb (S_N S) u j = lwm (S_N S) u (j + 1) from (if_pos (Nat.not_le.mp (fun z => c80 (nI_le z (by omega))))).symm]
                           exact ihi (j + 1) (by omega))
                    · refine aw_aload_n d_M_next_83 rfl ?_
                      refine aw_get (k := 33) d_M_next_84 cl_Model k_M_85 (by decide) rfl rfl ?_
                      refine aw_bipush (v := nI 6) d_M_next_87 (by decide) ?_
                      refine aw_iload d_M_next_89 rfl ?_
                      refine aw_imul d_M_next_91 ?_
                      refine aw_iload d_M_next_92 rfl ?_
                      refine aw_iadd d_M_next_94 ?_
                      rw [pk_mul, nI_add]
                      refine aw_ialoadN d_M_next_95 rfl (by omega) (by decide) ?_
                      rw [e9 u j (by omega) (by omega)]
                      refine aw_goto (tgt := 101) d_M_next_96 (by decide) ?_
                      refine aw_istore (L' := [some (.ref 56), some (.int w), some (.int bs), some (.int (nI ls)), some (.int (nI u)), some (.int (nI (wb (S_N S) u j))), some (.int (nI (j)))]) d_M_next_101 ⟨by decide, rfl⟩ rfl ?_
                      refine aw_iinc (v := nI ((j) + 1)) (L' := [some (.ref 56), some (.int w), some (.int bs), some (.int (nI ls)), some (.int (nI u)), some (.int (nI (wb (S_N S) u j))), some (.int (nI ((j) + 1)))]) d_M_next_103 rfl (nI_1 _) ⟨by decide, rfl⟩ rfl ?_
                      refine aw_goto (tgt := 56) d_M_next_106 (by decide) ?_
                      have hwb := wb_le hn6 u j
                      have hlw := lwm_le hn6 u j
                      first
                        | (rw [show lwm (S_N S) u j = lwm (S_N S) u (j + 1) from (if_neg (by have := (nI_leI (by omega) (by omega)).mp c80; omega)).symm]
                           exact ihi (j + 1) (by omega))
                        | (rw [show wb (S_N S) u j = lwm (S_N S) u (j + 1) from (if_pos (Nat.not_le.mp (fun z => c80 (nI_le z (by omega))))).symm]
                           exact ihi (j + 1) (by omega))
              exact loopi (N_n (S_N S)) 0 (by omega)
        exact loopu (N_n (S_N S)) 0 (-4) 1000000000 (by omega) (Nat.le_refl _) (Or.inl ⟨rfl, rfl, rfl⟩)
      · refine aw_bipush (v := (-4)) d_M_next_29 (by decide) ?_
        refine aw_ireturn d_M_next_31 rfl rfl ?_
        refine ⟨_, S, rfl, ?_, PM.mk2 hc (tab2 := nI (TT (N_n (S_N S)))) (la := la) (at_ := at_) (wr := wr) (ve := ve) (fs := fs) (ft := ft) rfl m1 m3 m4 m5 m6 ⟨n0, n1, n2, n3, n4, n5, n6, n7, n8, n9⟩ q1 q2 q4 (fun k h1 h2 h3 h4 => ?_) ⟨q3.1, ⟨g1, rfl⟩, ⟨g2, rfl⟩, ⟨g3, rfl⟩, q3.2.2.2.2.1, q3.2.2.2.2.2.1, q3.2.2.2.2.2.2.1, q3.2.2.2.2.2.2.2.1, q3.2.2.2.2.2.2.2.2.1, ⟨g8, rfl⟩, q3.2.2.2.2.2.2.2.2.2.2⟩, rfl, fun k hk => ?_⟩
        rotate_left
        · unfold scr at h3
          unfold HK
          rw [ab_set_ne (by omega), HL_ne (by omega) (by omega)]
        · unfold HK
          rw [ab_set_ne (by omega), HL_ne (by omega) (by omega)]
        unfold sp_next
        rw [if_pos irw, if_neg n0', if_pos ((nI_eq (b := 0) (by omega) (by decide)).mp c26)]
    · refine aw_bipush (v := (-2)) d_M_next_19 (by decide) ?_
      refine aw_ireturn d_M_next_21 rfl rfl ?_
      refine ⟨_, S, rfl, ?_, ⟨⟨tab, la, at_, wr, ve, fs, ft, m0, by omega, by omega, m3, m4, m5, m6⟩, ⟨n0, n1, n2, n3, n4, n5, n6, n7, n8, n9⟩, q1, q2, q3, q4⟩, rfl, fun k _ => rfl⟩
      unfold sp_next
      rw [if_pos irw, if_pos ((nI_eq (b := 0) (by omega) (by decide)).mp c16)]
  · refine aw_iconst (v := (-1)) d_M_next_10 (by decide) ?_
    refine aw_ireturn d_M_next_11 rfl rfl ?_
    refine ⟨_, S, rfl, ?_, ⟨⟨tab, la, at_, wr, ve, fs, ft, m0, by omega, by omega, m3, m4, m5, m6⟩, ⟨n0, n1, n2, n3, n4, n5, n6, n7, n8, n9⟩, q1, q2, q3, q4⟩, rfl, fun k _ => rfl⟩
    unfold sp_next
    rw [if_neg]
    intro z
    have := of_decide_eq_false (ab_bl_0.mp c7)
    rw [i64_toInt, tl0, tl1] at this
    exact this z
