theorem SE_ly {N : NS} (ok : N_ok N) {lm ly : Nat → Nat} (se : SE N false lm ly) {x : Nat → Nat} (hx : Tb (N_n N) x) : ly (num (N_n N) x) < 720 := by
  obtain ⟨k2, m2, a1, a2, a3, a4⟩ := WK_min ok _ _ _ hx (SE_fin ok se hx).2
  have := (SE_at ok se hx).2 _ _ a4
  have := (TT_le ok.1).1
  omega
theorem nv_ok {j : Nat} (h : mav j) : nv j = nI (mtA j) := if_neg h
theorem c_firstFrom {m : Nat} {h : ab_H} {N : NS} {me mi ve la : Int32} {tl : Nat} {at_ wr : Int32} {fe : Nat} {kp : Bool} (hM : h 56 = oM (N_n N) (N_ns N) (N_ra N) (N_se N) me mi (nI (TT (N_n N))) ve la tl at_ wr fe kp) (ok : N_ok N) {fs ft : Nat → Int32} (h73 : h 73 = .inl (214560, fs)) (h74 : h 74 = .inl (214560, ft)) (hst : ST N fs ft) {gm gn : Nat → Int32} (h70 : h 70 = .inl (720, gm)) (h71 : h 71 = .inl (720, gn)) {lm ly : Nat → Nat} (ar : AR (N_n N) lm ly gm gn) (se : SE N false lm ly) {t : Nat} (ht : t < TT (N_n N)) : ab_C Y_M_firstFrom [.ref 56, .int (nI t)] m h (fun r m2 h2 => m2 = m ∧ h2 = h ∧ ((∃ j0, j0 < 298 ∧ lw N lm ly (prm (N_n N) t) j0 ∧ (∀ i, i < j0 → ¬ lw N lm ly (prm (N_n N) t) i) ∧ r = some (.int (nI j0))) ∨ ((∀ i, i < 298 → ¬ lw N lm ly (prm (N_n N) t) i) ∧ r = some (.int (-4))))) := by
  have hn6 := ok.1
  have hTT := (TT_le hn6).1
  have hx := Tb.pr_ hn6 ht
  have ent := (prm_t hn6 ht).2.2
  have l2 := (SE_fin ok se hx).1
  have y2 := SE_ly ok se hx
  rw [ent] at l2 y2
  refine ab_C.of (L := [some (.ref 56), some (.int (nI t)), none, none]) rfl rfl (Nat.le_of_ble_eq_true rfl) (fun l => ?_)
  have loop : ∀ kf j, j + kf = 298 → (∀ i, i < j → ¬ lw N lm ly (prm (N_n N) t) i) → ab_W Y_M_firstFrom none l (fun r m2 h2 => m2 = m ∧ h2 = h ∧ ((∃ j0, j0 < 298 ∧ lw N lm ly (prm (N_n N) t) j0 ∧ (∀ i, i < j0 → ¬ lw N lm ly (prm (N_n N) t) i) ∧ r = some (.int (nI j0))) ∨ ((∀ i, i < 298 → ¬ lw N lm ly (prm (N_n N) t) i) ∧ r = some (.int (-4))))) 2 [some (.ref 56), some (.int (nI t)), some (.int (nI (j))), none] [] m (h) (0, 0) := by
    intro kf
    induction kf with
    | zero =>
      intro j hj9 hno
      have hj9n : 298 = j := by omega
      subst hj9n
      refine aw_iload_n d_M_firstFrom_2 rfl ?_
      refine aw_sipush (v := nI 298) d_M_firstFrom_3 (by decide) ?_
      refine aw_icmp_ge (tgt := 79) d_M_firstFrom_6 (by decide) (fun c6 => ?_) (fun c6 => ?_)
      · refine aw_bipush (v := (-4)) d_M_firstFrom_79 (by decide) ?_
        refine aw_ireturn d_M_firstFrom_81 rfl rfl ?_
        exact ⟨rfl, rfl, Or.inr ⟨hno, rfl⟩⟩
      · exact absurd (Int32.le_refl _) c6
    | succ kf ih =>
      intro j hj9 hno
      have hj : j < 298 := by omega
      refine aw_iload_n d_M_firstFrom_2 rfl ?_
      refine aw_sipush (v := nI 298) d_M_firstFrom_3 (by decide) ?_
      refine aw_icmp_ge (tgt := 79) d_M_firstFrom_6 (by decide) (fun c6 => ?_) (fun c6 => ?_)
      · exact absurd c6 (nI_ge (by omega) (by omega))
      · refine aw_aload_n d_M_firstFrom_9 rfl ?_
        refine aw_get (k := 23) d_M_firstFrom_10 cl_Model k_M_67 (by decide) hM rfl ?_
        refine aw_sipush (v := nI 298) d_M_firstFrom_13 (by decide) ?_
        refine aw_iload_n d_M_firstFrom_16 rfl ?_
        refine aw_imul d_M_firstFrom_17 ?_
        refine aw_iload_n d_M_firstFrom_18 rfl ?_
        refine aw_iadd d_M_firstFrom_19 ?_
        rw [pk_mul, nI_add]
        refine aw_ialoadN d_M_firstFrom_20 h73 (by omega) (by decide) ?_
        refine aw_topi (fun v21 ev21 => ?_)
        refine aw_istore_n (L' := [some (.ref 56), some (.int (nI t)), some (.int (nI (j))), some (.int v21)]) d_M_firstFrom_21 ⟨by decide, rfl⟩ rfl ?_
        refine aw_iload_n d_M_firstFrom_22 rfl ?_
        refine aw_if_lt (tgt := 73) d_M_firstFrom_23 (by decide) (fun c23 => ?_) (fun c23 => ?_)
        · refine aw_iinc (v := nI ((j) + 1)) (L' := [some (.ref 56), some (.int (nI t)), some (.int (nI ((j) + 1))), some (.int v21)]) d_M_firstFrom_73 rfl (nI_1 _) ⟨by decide, rfl⟩ rfl ?_
          refine aw_goto (tgt := 2) d_M_firstFrom_76 (by decide) ?_
          have nlw : ¬ lw N lm ly (prm (N_n N) t) j := by
            first
              | (intro z
                 have e9 := ((hst t ht j hj).1 z.1).1
                 rw [← ev21] at e9
                 rw [e9] at c23
                 exact absurd c23 (nI_n0 (by have := ((sto_Tb ok hx z.1.2.1).nu hn6).1; omega)))
              | (intro z
                 have z2 := z.2.1
                 rw [ent] at z2
                 exact c51 (by rw [z2]))
              | (intro z
                 have z2 := z.2.2
                 rw [ent] at z2
                 exact c68 (by rw [z2]))
          exact aw_drop 3 (ih (j + 1) (by omega) (fun i hi z => by
            by_cases e : i = j
            · subst e; exact nlw z
            · exact hno i (by omega) z))
        · have hsk : sok N (prm (N_n N) t) j := Classical.byContradiction (fun z => by
            have e9 := (hst t ht j hj).2 z
            rw [← ev21] at e9
            rw [e9] at c23
            exact c23 (by decide))
          have e3 := (hst t ht j hj).1 hsk
          have hs := sto_Tb ok hx hsk.2.1
          have n1 := (hs.nu hn6).1
          have n7 : (num (N_n N) (sto N (prm (N_n N) t) j)) < 720 := by omega
          have l1 := (SE_fin ok se hs).1
          have y1 := SE_ly ok se hs
          have hc := mil_le ok hx hsk.2.1
          obtain rfl : v21 = nI (num (N_n N) (sto N (prm (N_n N) t) j)) := ev21.trans e3.1
          refine aw_aload_n d_M_firstFrom_26 rfl ?_
          refine aw_get (k := 20) d_M_firstFrom_27 cl_Model k_M_57 (by decide) hM rfl ?_
          refine aw_iload_n d_M_firstFrom_30 rfl ?_
          refine aw_ialoadN d_M_firstFrom_31 h70 n7 (by decide) ?_
          rw [(ar _ n1).1]
          refine aw_aload_n d_M_firstFrom_32 rfl ?_
          refine aw_get (k := 24) d_M_firstFrom_33 cl_Model k_M_70 (by decide) hM rfl ?_
          refine aw_sipush (v := nI 298) d_M_firstFrom_36 (by decide) ?_
          refine aw_iload_n d_M_firstFrom_39 rfl ?_
          refine aw_imul d_M_firstFrom_40 ?_
          refine aw_iload_n d_M_firstFrom_41 rfl ?_
          refine aw_iadd d_M_firstFrom_42 ?_
          rw [pk_mul, nI_add]
          refine aw_ialoadN d_M_firstFrom_43 h74 (by omega) (by decide) ?_
          rw [e3.2]
          refine aw_iadd d_M_firstFrom_44 ?_
          rw [nI_add]
          refine aw_aload_n d_M_firstFrom_45 rfl ?_
          refine aw_get (k := 20) d_M_firstFrom_46 cl_Model k_M_57 (by decide) hM rfl ?_
          refine aw_iload_n d_M_firstFrom_49 rfl ?_
          refine aw_ialoadN d_M_firstFrom_50 h70 (by omega) (by decide) ?_
          rw [(ar _ ht).1]
          refine aw_icmp_ne (tgt := 73) d_M_firstFrom_51 (by decide) (fun c51 => ?_) (fun c51 => ?_)
          · refine aw_iinc (v := nI ((j) + 1)) (L' := [some (.ref 56), some (.int (nI t)), some (.int (nI ((j) + 1))), some (.int (nI (num (N_n N) (sto N (prm (N_n N) t) j))))]) d_M_firstFrom_73 rfl (nI_1 _) ⟨by decide, rfl⟩ rfl ?_
            refine aw_goto (tgt := 2) d_M_firstFrom_76 (by decide) ?_
            have nlw : ¬ lw N lm ly (prm (N_n N) t) j := by
              first
                | (intro z
                   have e9 := ((hst t ht j hj).1 z.1).1
                   rw [← ev21] at e9
                   rw [e9] at c23
                   exact absurd c23 (nI_n0 (by have := ((sto_Tb ok hx z.1.2.1).nu hn6).1; omega)))
                | (intro z
                   have z2 := z.2.1
                   rw [ent] at z2
                   exact c51 (by rw [z2]))
                | (intro z
                   have z2 := z.2.2
                   rw [ent] at z2
                   exact c68 (by rw [z2]))
            exact aw_drop 3 (ih (j + 1) (by omega) (fun i hi z => by
              by_cases e : i = j
              · subst e; exact nlw z
              · exact hno i (by omega) z))
          · refine aw_aload_n d_M_firstFrom_54 rfl ?_
            refine aw_get (k := 21) d_M_firstFrom_55 cl_Model k_M_60 (by decide) hM rfl ?_
            refine aw_iload_n d_M_firstFrom_58 rfl ?_
            refine aw_ialoadN d_M_firstFrom_59 h71 n7 (by decide) ?_
            rw [(ar _ n1).2]
            refine aw_iconst (v := nI 1) d_M_firstFrom_60 (by decide) ?_
            refine aw_iadd d_M_firstFrom_61 ?_
            rw [nI_add]
            refine aw_aload_n d_M_firstFrom_62 rfl ?_
            refine aw_get (k := 21) d_M_firstFrom_63 cl_Model k_M_60 (by decide) hM rfl ?_
            refine aw_iload_n d_M_firstFrom_66 rfl ?_
            refine aw_ialoadN d_M_firstFrom_67 h71 (by omega) (by decide) ?_
            rw [(ar _ ht).2]
            refine aw_icmp_ne (tgt := 73) d_M_firstFrom_68 (by decide) (fun c68 => ?_) (fun c68 => ?_)
            · refine aw_iinc (v := nI ((j) + 1)) (L' := [some (.ref 56), some (.int (nI t)), some (.int (nI ((j) + 1))), some (.int (nI (num (N_n N) (sto N (prm (N_n N) t) j))))]) d_M_firstFrom_73 rfl (nI_1 _) ⟨by decide, rfl⟩ rfl ?_
              refine aw_goto (tgt := 2) d_M_firstFrom_76 (by decide) ?_
              have nlw : ¬ lw N lm ly (prm (N_n N) t) j := by
                first
                  | (intro z
                     have e9 := ((hst t ht j hj).1 z.1).1
                     rw [← ev21] at e9
                     rw [e9] at c23
                     exact absurd c23 (nI_n0 (by have := ((sto_Tb ok hx z.1.2.1).nu hn6).1; omega)))
                  | (intro z
                     have z2 := z.2.1
                     rw [ent] at z2
                     exact c51 (by rw [z2]))
                  | (intro z
                     have z2 := z.2.2
                     rw [ent] at z2
                     exact c68 (by rw [z2]))
              exact aw_drop 3 (ih (j + 1) (by omega) (fun i hi z => by
                by_cases e : i = j
                · subst e; exact nlw z
                · exact hno i (by omega) z))
            · refine aw_iload_n d_M_firstFrom_71 rfl ?_
              refine aw_ireturn d_M_firstFrom_72 rfl rfl ?_
              have q1 := (nI_eq (show lm (num (N_n N) (sto N (prm (N_n N) t) j)) + sco N (prm (N_n N) t) j < 2 ^ 31 by omega) (by omega)).mp c51
              have q2 := (nI_eq (show ly (num (N_n N) (sto N (prm (N_n N) t) j)) + 1 < 2 ^ 31 by omega) (by omega)).mp c68
              exact ⟨rfl, rfl, Or.inl ⟨j, hj, ⟨hsk, by rw [ent]; exact q1, by rw [ent]; exact q2⟩, hno, rfl⟩⟩
  refine aw_iconst (v := nI 0) d_M_firstFrom_0 (by decide) ?_
  refine aw_istore_n (L' := [some (.ref 56), some (.int (nI t)), some (.int (nI 0)), none]) d_M_firstFrom_1 ⟨by decide, rfl⟩ rfl ?_
  exact loop 298 0 (by omega) (fun i hi => absurd hi (Nat.not_lt_zero _))
theorem y_plan {V : VV} {m c : Nat} {h : ab_H} {S : SS} (hM : PM V c h S) (ok : S_ok S) (hc : c < 900) (hVt : V.2.2.2.2 = ST) (i : Int32) : CM V Y_M_plan [.int i] m c h (fun r S2 => SPP S i r ∧ S2 = S) := by
  obtain ⟨⟨tab, la, at_, wr, ve, fs, ft, m0, m1, m2, m3, m4, m5, m6⟩, ⟨n0, n1, n2, n3, n4, n5, n6, n7, n8, n9⟩, q1, q2, q3, q4⟩ := id hM
  have hn6 : N_n (S_N S) ≤ 6 := ok.1.1
  have hnT := nI_toInt (show N_n (S_N S) < 2 ^ 31 by omega)
  obtain ⟨_, ⟨d1, h67⟩, ⟨d2, h68⟩, ⟨d3, h69⟩, ⟨dm, h70⟩, ⟨dn, h71⟩, ⟨d7, h72⟩, _⟩ := id q3
  have hTb : Tb (N_n (S_N S)) (N_t (S_N S)) := ⟨ok.1.pm, ok.1.2.2.1⟩
  have hTT := (TT_le hn6).1
  refine ab_C.of (L := [some (.ref 56), some (.int i), none, none, none, none]) rfl rfl (Nat.le_of_ble_eq_true rfl) (fun l => ?_)
  refine aw_iload_n d_M_plan_0 rfl ?_
  refine aw_bipush (v := (-2)) d_M_plan_1 (by decide) ?_
  refine aw_icmp_ge (tgt := 8) d_M_plan_3 (by decide) (fun c3 => ?_) (fun c3 => ?_)
  · refine aw_aload_n d_M_plan_8 rfl ?_
    refine aw_iconst (v := nI 0) d_M_plan_9 (by decide) ?_
    have hla : la = nI ve → ST (S_N S) fs ft := fun z => by
      rcases m6 with y | ⟨j, y1, y2, y3⟩
      · rw [y] at z
        exact absurd z (by rw [fa_eq, nI_toInt (by omega)]; rw [show (-1 : Int32).toInt = -1 from by decide]; omega)
      · rw [y2] at z
        have := y3 ((nI_eq (by omega) (by omega)).mp z)
        rw [hVt] at this
        exact this
    refine aw_v0 (a := 56) d_M_plan_10 k_M_247 ok_M_settles rfl ⟨rfl, rfl⟩ cl_Model m0 (c_settles (N := S_N S) m0 ⟨n0, n1, n2, n3, n4, n5, n6, n7, n8, n9⟩ ok.1 h67 h68 h69 h72 m4 m5 h70 h71 hla false) rfl rfl (Nat.le_of_ble_eq_true rfl) (fun r m2 h2 z => ?_)
    obtain ⟨rfl, em, g1, g2, g3, g7, fs2, ft2, gm, gn, rfl, hly, hst, lm, ly, ar, se⟩ := z
    rw [em]
    show ab_W _ _ _ _ 13 _ [] _ _ _
    have ni2 : ¬ i < -2 := Int32.not_lt.mpr c3
    have hBP : ∃ js, BP (S_N S) (N_t (S_N S)) js (lm (num (N_n (S_N S)) (N_t (S_N S)))) ∧ js.length = ly (num (N_n (S_N S)) (N_t (S_N S))) := BP_ex ok.1 se _ _ hTb rfl
    obtain ⟨js0, bp1, bp2⟩ := hBP
    obtain ⟨u1, u2⟩ := hTb.nu hn6
    have hans : ∀ v : Int32, v = spv js0 (lm (num (N_n (S_N S)) (N_t (S_N S)))) i → SPP S i v := fun v ev => by
      unfold SPP
      rw [if_neg ni2]
      exact ⟨js0, _, bp1, ev⟩
    refine aw_aload_n d_M_plan_13 rfl ?_
    refine aw_v0i (a := 56) d_M_plan_14 k_M_251 ok_M_tableNow rfl ⟨rfl, rfl⟩ cl_Model rfl (c_tableNow (h := HT (HV (HL h (oM (N_n (S_N S)) (N_ns (S_N S)) (N_ra (S_N S)) (N_se (S_N S)) (N_me (S_N S)) (N_mi (S_N S)) (nI (TT (N_n (S_N S)))) (nI ve) (nI ve) (S_tl S) at_ wr (N_fe (S_N S)) (S_K S).isSome) g1 g2 g3) g7 fs2 ft2) gm gn) (N := S_N S) rfl ⟨n0, n1, n2, n3, n4, n5, n6, n7, n8, n9⟩ ok.1 (g2 := g2) (g3 := g3) rfl rfl hly) rfl rfl (Nat.le_of_ble_eq_true rfl) ?_
    refine aw_istore_n (L' := [some (.ref 56), some (.int i), some (.int (nI (num (N_n (S_N S)) (N_t (S_N S))))), none, none, none]) d_M_plan_17 ⟨by decide, rfl⟩ rfl ?_
    refine aw_iload_n d_M_plan_18 rfl ?_
    refine aw_if_ge (tgt := 43) d_M_plan_19 (by decide) (fun c19 => ?_) (fun c19 => ?_)
    · have i0 : 0 ≤ i.toInt := by
        have := (fa_le _ _).mp c19
        rwa [show ((0 : Int32)).toInt = 0 from by decide] at this
      obtain ⟨i9, hi9, rfl⟩ : ∃ i9, i9 < 2 ^ 31 ∧ i = nI i9 := ⟨cl i, by have := cl_int i0; have := fb_rng i; omega, cl_of i0⟩
      obtain ⟨tgt, etg⟩ : ∃ z, z = spv js0 (lm (num (N_n (S_N S)) (N_t (S_N S)))) (nI i9) := ⟨_, rfl⟩
      have hans2 : ∀ v : Int32, v = tgt → SPP S (nI i9) v := fun v ev => hans v (ev.trans etg)
      refine aw_bipush (v := (-4)) d_M_plan_43 (by decide) ?_
      refine aw_istore_n (L' := [some (.ref 56), some (.int (nI i9)), some (.int (nI (num (N_n (S_N S)) (N_t (S_N S))))), some (.int (-4)), none, none]) d_M_plan_45 ⟨by decide, rfl⟩ rfl ?_
      refine aw_iconst (v := nI 0) d_M_plan_46 (by decide) ?_
      refine aw_istore (L' := [some (.ref 56), some (.int (nI i9)), some (.int (nI (num (N_n (S_N S)) (N_t (S_N S))))), some (.int (-4)), some (.int (nI 0)), none]) d_M_plan_47 ⟨by decide, rfl⟩ rfl ?_
      have exi : ∀ (tv v3 v5 : Option Value) (t3 : Int32) (nq : Nat), i9 < nq → nq < 2 ^ 31 → v3 = some (.int t3) → t3 = tgt → ab_W Y_M_plan none l (fun r m2 h2 => ∃ (v : Int32) (S2 : SS), r = some (.int v) ∧ (SPP S (nI i9) v ∧ S2 = S) ∧ PM V (c + 1) h2 S2 ∧ m2 = m ∧ ∀ k, (k < 56 ∨ 88 < k) → h2 k = h k) 49 [some (.ref 56), some (.int (nI i9)), tv, v3, some (.int (nI nq)), v5] [] m (HT (HV (HL h (oM (N_n (S_N S)) (N_ns (S_N S)) (N_ra (S_N S)) (N_se (S_N S)) (N_me (S_N S)) (N_mi (S_N S)) (nI (TT (N_n (S_N S)))) (nI ve) (nI ve) (S_tl S) at_ wr (N_fe (S_N S)) (S_K S).isSome) g1 g2 g3) g7 fs2 ft2) gm gn) (0, 0) := by
        intro tv v3 v5 t3 nq h9 h31 e3 e4
        subst e3
        refine aw_iload d_M_plan_49 rfl ?_
        refine aw_iload_n d_M_plan_51 rfl ?_
        refine aw_icmp_gt (tgt := 127) d_M_plan_52 (by decide) (fun c52 => ?_) (fun c52 => ?_)
        · refine aw_iload_n d_M_plan_127 rfl ?_
          refine aw_ireturn d_M_plan_128 rfl rfl ?_
          exact ⟨_, S, rfl, ⟨hans2 _ e4, rfl⟩, PM.mk2 hc (tab2 := nI (TT (N_n (S_N S)))) (la := nI ve) (at_ := at_) (wr := wr) (ve := ve) (fs := fs2) (ft := ft2) rfl m1 m3 rfl rfl (Or.inr ⟨ve, Nat.le_refl _, rfl, fun _ => by rw [hVt]; exact hst⟩) ⟨n0, n1, n2, n3, n4, n5, n6, n7, n8, n9⟩ q1 q2 q4 (fun k h1 h2 h3 h4 => by unfold scr at h3; rw [HT_ne (by omega) (by omega), HV_ne (by omega), HL_ne (by omega) (by omega)]) ⟨q3.1, ⟨g1, rfl⟩, ⟨g2, rfl⟩, ⟨g3, rfl⟩, ⟨gm, rfl⟩, ⟨gn, rfl⟩, ⟨g7, rfl⟩, q3.2.2.2.2.2.2.2⟩, rfl, fun k hk => by rw [HT_ne (by omega) (by omega), HV_ne (by omega), HL_ne (by omega) (by omega)]⟩
        · exact absurd (nI_lt h9 h31) c52
      have fin4 : ∀ (nq : Nat), nq ≤ i9 + 1 → tgt = -4 → ab_W Y_M_plan none l (fun r m2 h2 => ∃ (v : Int32) (S2 : SS), r = some (.int v) ∧ (SPP S (nI i9) v ∧ S2 = S) ∧ PM V (c + 1) h2 S2 ∧ m2 = m ∧ ∀ k, (k < 56 ∨ 88 < k) → h2 k = h k) 49 [some (.ref 56), some (.int (nI i9)), some (.int (-4)), some (.int (-4)), some (.int (nI nq)), some (.int (-4))] [] m (HT (HV (HL h (oM (N_n (S_N S)) (N_ns (S_N S)) (N_ra (S_N S)) (N_se (S_N S)) (N_me (S_N S)) (N_mi (S_N S)) (nI (TT (N_n (S_N S)))) (nI ve) (nI ve) (S_tl S) at_ wr (N_fe (S_N S)) (S_K S).isSome) g1 g2 g3) g7 fs2 ft2) gm gn) (0, 0) := by
        intro nq h9 e4
        refine aw_iload d_M_plan_49 rfl ?_
        refine aw_iload_n d_M_plan_51 rfl ?_
        refine aw_icmp_gt (tgt := 127) d_M_plan_52 (by decide) (fun c52 => ?_) (fun c52 => ?_)
        · refine aw_iload_n d_M_plan_127 rfl ?_
          refine aw_ireturn d_M_plan_128 rfl rfl ?_
          exact ⟨_, S, rfl, ⟨hans2 _ e4.symm, rfl⟩, PM.mk2 hc (tab2 := nI (TT (N_n (S_N S)))) (la := nI ve) (at_ := at_) (wr := wr) (ve := ve) (fs := fs2) (ft := ft2) rfl m1 m3 rfl rfl (Or.inr ⟨ve, Nat.le_refl _, rfl, fun _ => by rw [hVt]; exact hst⟩) ⟨n0, n1, n2, n3, n4, n5, n6, n7, n8, n9⟩ q1 q2 q4 (fun k h1 h2 h3 h4 => by unfold scr at h3; rw [HT_ne (by omega) (by omega), HV_ne (by omega), HL_ne (by omega) (by omega)]) ⟨q3.1, ⟨g1, rfl⟩, ⟨g2, rfl⟩, ⟨g3, rfl⟩, ⟨gm, rfl⟩, ⟨gn, rfl⟩, ⟨g7, rfl⟩, q3.2.2.2.2.2.2.2⟩, rfl, fun k hk => by rw [HT_ne (by omega) (by omega), HV_ne (by omega), HL_ne (by omega) (by omega)]⟩
        · refine aw_iload_n d_M_plan_55 rfl ?_
          refine aw_if_lt (tgt := 127) d_M_plan_56 (by decide) (fun c56 => ?_) (fun c56 => ?_)
          · refine aw_iload_n d_M_plan_127 rfl ?_
            refine aw_ireturn d_M_plan_128 rfl rfl ?_
            exact ⟨_, S, rfl, ⟨hans2 _ e4.symm, rfl⟩, PM.mk2 hc (tab2 := nI (TT (N_n (S_N S)))) (la := nI ve) (at_ := at_) (wr := wr) (ve := ve) (fs := fs2) (ft := ft2) rfl m1 m3 rfl rfl (Or.inr ⟨ve, Nat.le_refl _, rfl, fun _ => by rw [hVt]; exact hst⟩) ⟨n0, n1, n2, n3, n4, n5, n6, n7, n8, n9⟩ q1 q2 q4 (fun k h1 h2 h3 h4 => by unfold scr at h3; rw [HT_ne (by omega) (by omega), HV_ne (by omega), HL_ne (by omega) (by omega)]) ⟨q3.1, ⟨g1, rfl⟩, ⟨g2, rfl⟩, ⟨g3, rfl⟩, ⟨gm, rfl⟩, ⟨gn, rfl⟩, ⟨g7, rfl⟩, q3.2.2.2.2.2.2.2⟩, rfl, fun k hk => by rw [HT_ne (by omega) (by omega), HV_ne (by omega), HL_ne (by omega) (by omega)]⟩
          · exact absurd (by decide) c56
      have loop : ∀ (ky : Nat) (y : Nat → Nat) (js : List Nat) (nq : Nat) (v3 : Int32), Tb (N_n (S_N S)) y → ly (num (N_n (S_N S)) y) = ky → BP (S_N S) y js (lm (num (N_n (S_N S)) y)) → js.length = ky → nq + ky ≤ 720 → nq ≤ i9 → (if i9 - nq < js.length then nI (mtA (js.getD (i9 - nq) 0)) else -4) = tgt → ab_W Y_M_plan none l (fun r m2 h2 => ∃ (v : Int32) (S2 : SS), r = some (.int v) ∧ (SPP S (nI i9) v ∧ S2 = S) ∧ PM V (c + 1) h2 S2 ∧ m2 = m ∧ ∀ k, (k < 56 ∨ 88 < k) → h2 k = h k) 49 [some (.ref 56), some (.int (nI i9)), some (.int (nI (num (N_n (S_N S)) y))), some (.int v3), some (.int (nI nq)), none] [] m (HT (HV (HL h (oM (N_n (S_N S)) (N_ns (S_N S)) (N_ra (S_N S)) (N_se (S_N S)) (N_me (S_N S)) (N_mi (S_N S)) (nI (TT (N_n (S_N S)))) (nI ve) (nI ve) (S_tl S) at_ wr (N_fe (S_N S)) (S_K S).isSome) g1 g2 g3) g7 fs2 ft2) gm gn) (0, 0) := by
        intro ky
        induction ky with
        | zero =>
          intro y js nq v3 hy hly0 hbp hl h72 hnq htg
          obtain ⟨u1, u2⟩ := hy.nu hn6
          have u7 : (num (N_n (S_N S)) y) < 720 := by omega
          refine aw_iload d_M_plan_49 rfl ?_
          refine aw_iload_n d_M_plan_51 rfl ?_
          refine aw_icmp_gt (tgt := 127) d_M_plan_52 (by decide) (fun c52 => ?_) (fun c52 => ?_)
          · exact absurd c52 (Int32.not_lt.mpr (nI_le hnq (by omega)))
          · refine aw_iload_n d_M_plan_55 rfl ?_
            refine aw_if_lt (tgt := 127) d_M_plan_56 (by decide) (fun c56 => ?_) (fun c56 => ?_)
            · exact absurd c56 (nI_n0 (by omega))
            · refine aw_aload_n d_M_plan_59 rfl ?_
              refine aw_get (k := 21) d_M_plan_60 cl_Model k_M_60 (by decide) rfl rfl ?_
              refine aw_iload_n d_M_plan_63 rfl ?_
              refine aw_ialoadN d_M_plan_64 rfl u7 (by decide) ?_
              rw [(ar _ u1).2, hly0]
              refine aw_if_ne (tgt := 73) d_M_plan_65 (by decide) (fun c65 => ?_) (fun c65 => ?_)
              · first | exact absurd c65 (by decide) | exact absurd (by decide) c65
              · refine aw_bipush (v := (-4)) d_M_plan_68 (by decide) ?_
                refine aw_goto (tgt := 78) d_M_plan_70 (by decide) ?_
                refine aw_istore (L' := [some (.ref 56), some (.int (nI i9)), some (.int (nI (num (N_n (S_N S)) y))), some (.int v3), some (.int (nI nq)), some (.int (-4))]) d_M_plan_78 ⟨by decide, rfl⟩ rfl ?_
                refine aw_iload d_M_plan_80 rfl ?_
                refine aw_if_ge (tgt := 90) d_M_plan_82 (by decide) (fun c82 => ?_) (fun c82 => ?_)
                · first | exact absurd c82 (by decide) | exact absurd (by decide) c82
                · refine aw_bipush (v := (-4)) d_M_plan_85 (by decide) ?_
                  refine aw_goto (tgt := 96) d_M_plan_87 (by decide) ?_
                  refine aw_istore_n (L' := [some (.ref 56), some (.int (nI i9)), some (.int (nI (num (N_n (S_N S)) y))), some (.int (-4)), some (.int (nI nq)), some (.int (-4))]) d_M_plan_96 ⟨by decide, rfl⟩ rfl ?_
                  refine aw_iload d_M_plan_97 rfl ?_
                  refine aw_if_ge (tgt := 107) d_M_plan_99 (by decide) (fun c99 => ?_) (fun c99 => ?_)
                  · first | exact absurd c99 (by decide) | exact absurd (by decide) c99
                  · refine aw_bipush (v := (-4)) d_M_plan_102 (by decide) ?_
                    refine aw_goto (tgt := 120) d_M_plan_104 (by decide) ?_
                    refine aw_istore_n (L' := [some (.ref 56), some (.int (nI i9)), some (.int (-4)), some (.int (-4)), some (.int (nI nq)), some (.int (-4))]) d_M_plan_120 ⟨by decide, rfl⟩ rfl ?_
                    refine aw_iinc (v := nI (nq + 1)) (L' := [some (.ref 56), some (.int (nI i9)), some (.int (-4)), some (.int (-4)), some (.int (nI (nq + 1))), some (.int (-4))]) d_M_plan_121 rfl (nI_1 _) ⟨by decide, rfl⟩ rfl ?_
                    refine aw_goto (tgt := 49) d_M_plan_124 (by decide) ?_
                    have e0 : js = [] := List.length_eq_zero_iff.mp hl
                    subst e0
                    exact fin4 (nq + 1) (by omega) (by rw [← htg]; rfl)
        | succ ky ih =>
          intro y js nq v3 hy hly0 hbp hl h72 hnq htg
          obtain ⟨u1, u2⟩ := hy.nu hn6
          have u7 : (num (N_n (S_N S)) y) < 720 := by omega
          have hly7 := SE_ly ok.1 se hy
          refine aw_iload d_M_plan_49 rfl ?_
          refine aw_iload_n d_M_plan_51 rfl ?_
          refine aw_icmp_gt (tgt := 127) d_M_plan_52 (by decide) (fun c52 => ?_) (fun c52 => ?_)
          · exact absurd c52 (Int32.not_lt.mpr (nI_le hnq (by omega)))
          · refine aw_iload_n d_M_plan_55 rfl ?_
            refine aw_if_lt (tgt := 127) d_M_plan_56 (by decide) (fun c56 => ?_) (fun c56 => ?_)
            · exact absurd c56 (nI_n0 (by omega))
            · refine aw_aload_n d_M_plan_59 rfl ?_
              refine aw_get (k := 21) d_M_plan_60 cl_Model k_M_60 (by decide) rfl rfl ?_
              refine aw_iload_n d_M_plan_63 rfl ?_
              refine aw_ialoadN d_M_plan_64 rfl u7 (by decide) ?_
              rw [(ar _ u1).2]
              refine aw_if_ne (tgt := 73) d_M_plan_65 (by decide) (fun c65 => ?_) (fun c65 => ?_)
              · refine aw_aload_n d_M_plan_73 rfl ?_
                refine aw_iload_n d_M_plan_74 rfl ?_
                refine aw_v0 (a := 56) d_M_plan_75 k_M_254 ok_M_firstFrom rfl ⟨rfl, rfl⟩ cl_Model rfl (c_firstFrom (h := HT (HV (HL h (oM (N_n (S_N S)) (N_ns (S_N S)) (N_ra (S_N S)) (N_se (S_N S)) (N_me (S_N S)) (N_mi (S_N S)) (nI (TT (N_n (S_N S)))) (nI ve) (nI ve) (S_tl S) at_ wr (N_fe (S_N S)) (S_K S).isSome) g1 g2 g3) g7 fs2 ft2) gm gn) (N := S_N S) rfl ok.1 (fs := fs2) (ft := ft2) rfl rfl hst (gm := gm) (gn := gn) rfl rfl ar se u1) rfl rfl (Nat.le_of_ble_eq_true rfl) (fun r m2 h2 z => ?_)
                obtain ⟨em, eh, hz⟩ := z
                rw [em, eh]
                rw [u2] at hz
                rcases hz with ⟨j0, hj0, hlw, hmin, er⟩ | ⟨hno, er⟩
                rotate_left
                · exfalso
                  obtain ⟨j1, w1, w2, m2, w3, w4⟩ : WK (S_N S) false (ky + 1) y (lm (num (N_n (S_N S)) y)) := by have := (SE_fin ok.1 se hy).2; rwa [hly0] at this
                  rw [cs_f] at w4
                  exact hno j1 w1 (SE_step ok.1 se hy w1 w2.1 w3 w4 hly0).1
                subst er
                have hy2 := sto_Tb ok.1 hy hlw.1.2.1
                have hly2 : ly (num (N_n (S_N S)) (sto (S_N S) y j0)) = ky := by have := hlw.2.2; omega
                obtain ⟨js0, b1, b2⟩ := BP_ex ok.1 se ky _ hy2 hly2
                have ejs : js = j0 :: js0 := (hbp.eq (BP_cons ok.1 se hy hj0 hlw hmin b1 (by omega))).2
                have hsE : fs2 (298 * (num (N_n (S_N S)) y) + j0) = nI (num (N_n (S_N S)) (sto (S_N S) y j0)) := by
                  have := ((hst _ u1 j0 hj0).1 (by rw [u2]; exact hlw.1)).1
                  rwa [u2] at this
                show ab_W _ _ _ _ 78 _ [.int (nI j0)] _ _ _
                refine aw_istore (L' := [some (.ref 56), some (.int (nI i9)), some (.int (nI (num (N_n (S_N S)) y))), some (.int v3), some (.int (nI nq)), some (.int (nI j0))]) d_M_plan_78 ⟨by decide, rfl⟩ rfl ?_
                refine aw_iload d_M_plan_80 rfl ?_
                refine aw_if_ge (tgt := 90) d_M_plan_82 (by decide) (fun c82 => ?_) (fun c82 => ?_)
                · refine aw_aload_n d_M_plan_90 rfl ?_
                  refine aw_iload d_M_plan_91 rfl ?_
                  refine aw_v0i (a := 56) d_M_plan_93 k_M_230 ok_M_meetingAt rfl ⟨rfl, rfl⟩ cl_Model rfl (c_meetingAt hj0) rfl rfl (Nat.le_of_ble_eq_true rfl) ?_
                  rw [nv_ok hlw.1.1]
                  refine aw_istore_n (L' := [some (.ref 56), some (.int (nI i9)), some (.int (nI (num (N_n (S_N S)) y))), some (.int (nI (mtA j0))), some (.int (nI nq)), some (.int (nI j0))]) d_M_plan_96 ⟨by decide, rfl⟩ rfl ?_
                  refine aw_iload d_M_plan_97 rfl ?_
                  refine aw_if_ge (tgt := 107) d_M_plan_99 (by decide) (fun c99 => ?_) (fun c99 => ?_)
                  · refine aw_aload_n d_M_plan_107 rfl ?_
                    refine aw_get (k := 23) d_M_plan_108 cl_Model k_M_67 (by decide) rfl rfl ?_
                    refine aw_sipush (v := nI 298) d_M_plan_111 (by decide) ?_
                    refine aw_iload_n d_M_plan_114 rfl ?_
                    refine aw_imul d_M_plan_115 ?_
                    refine aw_iload d_M_plan_116 rfl ?_
                    refine aw_iadd d_M_plan_118 ?_
                    rw [pk_mul, nI_add]
                    refine aw_ialoadN d_M_plan_119 rfl (by omega) (by decide) ?_
                    rw [hsE]
                    refine aw_istore_n (L' := [some (.ref 56), some (.int (nI i9)), some (.int (nI (num (N_n (S_N S)) (sto (S_N S) y j0)))), some (.int (nI (mtA j0))), some (.int (nI nq)), some (.int (nI j0))]) d_M_plan_120 ⟨by decide, rfl⟩ rfl ?_
                    refine aw_iinc (v := nI (nq + 1)) (L' := [some (.ref 56), some (.int (nI i9)), some (.int (nI (num (N_n (S_N S)) (sto (S_N S) y j0)))), some (.int (nI (mtA j0))), some (.int (nI (nq + 1))), some (.int (nI j0))]) d_M_plan_121 rfl (nI_1 _) ⟨by decide, rfl⟩ rfl ?_
                    refine aw_goto (tgt := 49) d_M_plan_124 (by decide) ?_
                    rw [ejs] at htg
                    by_cases h9 : nq + 1 ≤ i9
                    · refine aw_drop 5 (ih _ js0 (nq + 1) _ hy2 hly2 b1 b2 (by omega) h9 ?_)
                      rw [← htg, List.length_cons, show i9 - nq = (i9 - (nq + 1)) + 1 by omega, List.getD_cons_succ]
                      by_cases q : i9 - (nq + 1) < js0.length
                      · rw [if_pos q, if_pos (by omega)]
                      · rw [if_neg q, if_neg (by omega)]
                    · refine exi _ _ _ _ (nq + 1) (by omega) (by omega) rfl ?_
                      rw [← htg, List.length_cons, show i9 - nq = 0 by omega, if_pos (by omega), List.getD_cons_zero]
                  · exact absurd (show nI 0 ≤ nI j0 from nI_le (Nat.zero_le _) (by omega)) c99
                · exact absurd (show nI 0 ≤ nI j0 from nI_le (Nat.zero_le _) (by omega)) c82
              · exact absurd ((nI_eq (b := 0) (by omega) (by decide)).mp c65) (by omega)
      refine loop _ _ js0 0 _ hTb rfl bp1 bp2 (by have := SE_ly ok.1 se hTb; omega) (Nat.zero_le _) ?_
      rw [etg]
      unfold spv
      have w1 : ¬ nI i9 = -1 := by rw [fa_eq, nI_toInt hi9, show ((-1 : Int32)).toInt = -1 from by decide]; omega
      have w2 : ¬ nI i9 = -2 := by rw [fa_eq, nI_toInt hi9, show ((-2 : Int32)).toInt = -2 from by decide]; omega
      rw [if_neg w1, if_neg w2, nI_toInt hi9, cl_nI hi9, Nat.sub_zero]
      by_cases q : i9 < js0.length
      · rw [if_pos q, if_pos (by omega)]
      · rw [if_neg q, if_neg (by omega)]
    · refine aw_iload_n d_M_plan_22 rfl ?_
      refine aw_iconst (v := (-1)) d_M_plan_23 (by decide) ?_
      refine aw_icmp_ne (tgt := 36) d_M_plan_24 (by decide) (fun c24 => ?_) (fun c24 => ?_)
      · refine aw_aload_n d_M_plan_36 rfl ?_
        refine aw_get (k := 21) d_M_plan_37 cl_Model k_M_60 (by decide) rfl rfl ?_
        refine aw_iload_n d_M_plan_40 rfl ?_
        refine aw_ialoadN d_M_plan_41 rfl (Nat.lt_of_lt_of_le u1 hTT) (by decide) ?_
        refine aw_ireturn d_M_plan_42 rfl rfl ?_
        first
          | (have e9 := c24
             refine ⟨_, S, rfl, ⟨hans _ ?_, rfl⟩, PM.mk2 hc (tab2 := nI (TT (N_n (S_N S)))) (la := nI ve) (at_ := at_) (wr := wr) (ve := ve) (fs := fs2) (ft := ft2) rfl m1 m3 rfl rfl (Or.inr ⟨ve, Nat.le_refl _, rfl, fun _ => by rw [hVt]; exact hst⟩) ⟨n0, n1, n2, n3, n4, n5, n6, n7, n8, n9⟩ q1 q2 q4 (fun k h1 h2 h3 h4 => by unfold scr at h3; rw [HT_ne (by omega) (by omega), HV_ne (by omega), HL_ne (by omega) (by omega)]) ⟨q3.1, ⟨g1, rfl⟩, ⟨g2, rfl⟩, ⟨g3, rfl⟩, ⟨gm, rfl⟩, ⟨gn, rfl⟩, ⟨g7, rfl⟩, q3.2.2.2.2.2.2.2⟩, rfl, fun k hk => by rw [HT_ne (by omega) (by omega), HV_ne (by omega), HL_ne (by omega) (by omega)]⟩
             unfold spv
             rw [if_pos e9, (ar _ u1).1])
          | (refine ⟨_, S, rfl, ⟨hans _ ?_, rfl⟩, PM.mk2 hc (tab2 := nI (TT (N_n (S_N S)))) (la := nI ve) (at_ := at_) (wr := wr) (ve := ve) (fs := fs2) (ft := ft2) rfl m1 m3 rfl rfl (Or.inr ⟨ve, Nat.le_refl _, rfl, fun _ => by rw [hVt]; exact hst⟩) ⟨n0, n1, n2, n3, n4, n5, n6, n7, n8, n9⟩ q1 q2 q4 (fun k h1 h2 h3 h4 => by unfold scr at h3; rw [HT_ne (by omega) (by omega), HV_ne (by omega), HL_ne (by omega) (by omega)]) ⟨q3.1, ⟨g1, rfl⟩, ⟨g2, rfl⟩, ⟨g3, rfl⟩, ⟨gm, rfl⟩, ⟨gn, rfl⟩, ⟨g7, rfl⟩, q3.2.2.2.2.2.2.2⟩, rfl, fun k hk => by rw [HT_ne (by omega) (by omega), HV_ne (by omega), HL_ne (by omega) (by omega)]⟩
             have e2 : i = -2 := by
               have h1 := (fa_le _ _).mp c3
               have h2 := (fa_lt _ _).mp (fa_of_nle c19)
               rw [fa_eq] at c24
               rw [fa_eq]
               rw [show ((-2 : Int32)).toInt = -2 from by decide] at h1 ⊢
               rw [show ((0 : Int32)).toInt = 0 from by decide] at h2
               rw [show ((-1 : Int32)).toInt = -1 from by decide] at c24
               omega
             unfold spv
             rw [if_neg c24, if_pos e2, (ar _ u1).2, bp2])
      · refine aw_aload_n d_M_plan_27 rfl ?_
        refine aw_get (k := 20) d_M_plan_28 cl_Model k_M_57 (by decide) rfl rfl ?_
        refine aw_iload_n d_M_plan_31 rfl ?_
        refine aw_ialoadN d_M_plan_32 rfl (Nat.lt_of_lt_of_le u1 hTT) (by decide) ?_
        refine aw_goto (tgt := 42) d_M_plan_33 (by decide) ?_
        refine aw_ireturn d_M_plan_42 rfl rfl ?_
        first
          | (have e9 := c24
             refine ⟨_, S, rfl, ⟨hans _ ?_, rfl⟩, PM.mk2 hc (tab2 := nI (TT (N_n (S_N S)))) (la := nI ve) (at_ := at_) (wr := wr) (ve := ve) (fs := fs2) (ft := ft2) rfl m1 m3 rfl rfl (Or.inr ⟨ve, Nat.le_refl _, rfl, fun _ => by rw [hVt]; exact hst⟩) ⟨n0, n1, n2, n3, n4, n5, n6, n7, n8, n9⟩ q1 q2 q4 (fun k h1 h2 h3 h4 => by unfold scr at h3; rw [HT_ne (by omega) (by omega), HV_ne (by omega), HL_ne (by omega) (by omega)]) ⟨q3.1, ⟨g1, rfl⟩, ⟨g2, rfl⟩, ⟨g3, rfl⟩, ⟨gm, rfl⟩, ⟨gn, rfl⟩, ⟨g7, rfl⟩, q3.2.2.2.2.2.2.2⟩, rfl, fun k hk => by rw [HT_ne (by omega) (by omega), HV_ne (by omega), HL_ne (by omega) (by omega)]⟩
             unfold spv
             rw [if_pos e9, (ar _ u1).1])
          | (refine ⟨_, S, rfl, ⟨hans _ ?_, rfl⟩, PM.mk2 hc (tab2 := nI (TT (N_n (S_N S)))) (la := nI ve) (at_ := at_) (wr := wr) (ve := ve) (fs := fs2) (ft := ft2) rfl m1 m3 rfl rfl (Or.inr ⟨ve, Nat.le_refl _, rfl, fun _ => by rw [hVt]; exact hst⟩) ⟨n0, n1, n2, n3, n4, n5, n6, n7, n8, n9⟩ q1 q2 q4 (fun k h1 h2 h3 h4 => by unfold scr at h3; rw [HT_ne (by omega) (by omega), HV_ne (by omega), HL_ne (by omega) (by omega)]) ⟨q3.1, ⟨g1, rfl⟩, ⟨g2, rfl⟩, ⟨g3, rfl⟩, ⟨gm, rfl⟩, ⟨gn, rfl⟩, ⟨g7, rfl⟩, q3.2.2.2.2.2.2.2⟩, rfl, fun k hk => by rw [HT_ne (by omega) (by omega), HV_ne (by omega), HL_ne (by omega) (by omega)]⟩
             have e2 : i = -2 := by
               have h1 := (fa_le _ _).mp c3
               have h2 := (fa_lt _ _).mp (fa_of_nle c19)
               rw [fa_eq] at c24
               rw [fa_eq]
               rw [show ((-2 : Int32)).toInt = -2 from by decide] at h1 ⊢
               rw [show ((0 : Int32)).toInt = 0 from by decide] at h2
               rw [show ((-1 : Int32)).toInt = -1 from by decide] at c24
               omega
             unfold spv
             rw [if_neg c24, if_pos e2, (ar _ u1).2, bp2])
  · refine aw_iconst (v := (-1)) d_M_plan_6 (by decide) ?_
    refine aw_ireturn d_M_plan_7 rfl rfl ?_
    refine ⟨_, S, rfl, ⟨?_, rfl⟩, ⟨⟨tab, la, at_, wr, ve, fs, ft, m0, by omega, by omega, m3, m4, m5, m6⟩, ⟨n0, n1, n2, n3, n4, n5, n6, n7, n8, n9⟩, q1, q2, q3, q4⟩, rfl, fun k _ => rfl⟩
    unfold SPP
    rw [if_pos (fa_of_nle c3)]
