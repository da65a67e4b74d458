theorem c_laysSteps {m : Nat} {h : ab_H} {N : NS} {me mi tab ve la : Int32} {tl : Nat} {at_ wr : Int32} {fe : Nat} {kp : Bool} (hM : h 56 = oM (N_n N) (N_ns N) (N_ra N) (N_se N) me mi tab ve la tl at_ wr fe kp) (hP : PMn h N) (ok : N_ok N) {d1 d2 d3 d7 ds dt : Nat → Int32} (h67 : h 67 = .inl (6, d1)) (h68 : h 68 = .inl (4320, d2)) (h69 : h 69 = .inl (46656, d3)) (h72 : h 72 = .inl (6, d7)) (h73 : h 73 = .inl (214560, ds)) (h74 : h 74 = .inl (214560, dt)) (hst : la = ve → ST N ds dt) : ab_C Y_M_laysSteps [.ref 56] m h (fun r m2 h2 => r = none ∧ m2 = m ∧ ∃ g1 g2 g3 g7 fs ft : Nat → Int32, h2 = HV (HL h (oM (N_n N) (N_ns N) (N_ra N) (N_se N) me mi (nI (TT (N_n N))) ve ve tl at_ wr fe kp) g1 g2 g3) g7 fs ft ∧ LY (N_n N) (6 ^ N_n N) g2 g3 ∧ ST N fs ft) := by
  obtain ⟨⟨gx, hx, ax⟩, ⟨gy, hy, ay⟩, ⟨gm, hm, am⟩, ⟨gh, hh, ah⟩, ⟨gl, hl, al⟩, ⟨gw, hw, aw⟩, ⟨ga, ha0, aa⟩, ⟨gi, hi, ai⟩, ⟨gj, hj0, aj⟩, ⟨gf, hf0, af⟩⟩ := id hP
  have hn6 : N_n N ≤ 6 := ok.1
  have hns : N_ns N ≤ 4 := ok.2.2.2.2.2.2.2.2.1
  have hw6 := ok.w6
  have aw : ∀ k, k < N_n N → gw k = nI (N_w N / 2 ^ k % 2) := aw
  have bx := ok.2.2.2.2.2.1
  have bi := ok.2.2.2.2.2.2.2.2.2.1
  have hTT := (TT_le hn6).1
  refine ab_C.of (L := [some (.ref 56), none]) rfl rfl (Nat.le_of_ble_eq_true rfl) (fun l => ?_)
  refine aw_aload_n d_M_laysSteps_0 rfl ?_
  refine aw_aload_n d_M_laysSteps_1 rfl ?_
  refine aw_get (k := 0) d_M_laysSteps_2 cl_Model k_M_118 (by decide) hM rfl ?_
  refine aw_v0 (a := 56) d_M_laysSteps_5 k_M_226 ok_M_lays rfl ⟨rfl, rfl⟩ cl_Model hM (c_lays hM hn6 h67 h68 h69) rfl rfl (Nat.le_of_ble_eq_true rfl) (fun r m2 h2 q => ?_)
  obtain ⟨rfl, em, g1, g2, g3, rfl, hly⟩ := q
  rw [em]
  show ab_W _ _ _ _ 8 _ [] _ _ _
  refine aw_iconst (v := nI 0) d_M_laysSteps_8 (by decide) ?_
  refine aw_istore_n (L' := [some (.ref 56), some (.int (nI 0))]) d_M_laysSteps_9 ⟨by decide, rfl⟩ rfl ?_
  have eh : HV (HL h (oM (N_n N) (N_ns N) (N_ra N) (N_se N) me mi (nI (TT (N_n N))) ve la tl at_ wr fe kp) g1 g2 g3) d7 ds dt = HL h (oM (N_n N) (N_ns N) (N_ra N) (N_se N) me mi (nI (TT (N_n N))) ve la tl at_ wr fe kp) g1 g2 g3 := hv_h h72 h73 h74
  refine aw_heap eh ?_
  by_cases hla : la = ve
  · refine aw_iload_n d_M_laysSteps_10 rfl ?_
    refine aw_sipush (v := nI 298) d_M_laysSteps_11 (by decide) ?_
    refine aw_aload_n d_M_laysSteps_14 rfl ?_
    refine aw_get (k := 17) d_M_laysSteps_15 cl_Model k_M_220 (by decide) rfl rfl ?_
    refine aw_imul d_M_laysSteps_18 ?_
    rw [pk_mul]
    refine aw_icmp_ge (tgt := 100) d_M_laysSteps_19 (by decide) (fun c19 => ?_) (fun c19 => ?_)
    · exact absurd c19 (nI_ge (by have := (TT_le hn6).2; omega) (by omega))
    · refine aw_aload_n d_M_laysSteps_22 rfl ?_
      refine aw_get (k := 26) d_M_laysSteps_23 cl_Model k_M_73 (by decide) rfl rfl ?_
      refine aw_aload_n d_M_laysSteps_26 rfl ?_
      refine aw_get (k := 25) d_M_laysSteps_27 cl_Model k_M_133 (by decide) rfl rfl ?_
      refine aw_icmp_eq (tgt := 100) d_M_laysSteps_30 (by decide) (fun c30 => ?_) (fun c30 => ?_)
      · refine aw_aload_n d_M_laysSteps_100 rfl ?_
        refine aw_aload_n d_M_laysSteps_101 rfl ?_
        refine aw_get (k := 25) d_M_laysSteps_102 cl_Model k_M_133 (by decide) rfl rfl ?_
        refine aw_put (k := 26) (fs' := [.int (nI (N_n N)), .ref 57, .ref 58, .ref 59, .ref 60, .ref 61, .ref 62, .ref 63, .int (nI (N_ns N)), .ref 64, .ref 65, .int (nI (N_ra N)), .int (nI (N_se N)), .int me, .int mi, .ref 66, .ref 67, .int (nI (TT (N_n N))), .ref 68, .ref 69, .ref 70, .ref 71, .ref 72, .ref 73, .ref 74, .int ve, .int ve, .ref 75, .ref 76, .int (nI tl), .int at_, .int wr, .ref 77, .ref 78, .int (nI fe), .ref 79, .ref 80, .ref 81, .ref 82, .ref 83, .ref 84, .int (ab_bl kp), .ref 85, .ref 86, .ref 87, .ref 88]) d_M_laysSteps_105 cl_Model k_M_73 (by decide) rfl ⟨rfl, rfl⟩ rfl (Nat.le_of_ble_eq_true rfl) rfl ?_
        refine aw_return d_M_laysSteps_108 rfl ?_
        rw [hv_56]
        exact ⟨rfl, rfl, g1, g2, g3, d7, ds, dt, rfl, hly, hst hla⟩
      · exact absurd hla c30
  · have hne := hla
    have loop : ∀ kf k (g7 fs ft : Nat → Int32), k + kf = 298 * TT (N_n N) → (∀ t, t < TT (N_n N) → ∀ j, j < 298 → 298 * t + j < k → (sok N (prm (N_n N) t) j → fs (298 * t + j) = nI (num (N_n N) (sto N (prm (N_n N) t) j)) ∧ ft (298 * t + j) = nI (sco N (prm (N_n N) t) j)) ∧ (¬ sok N (prm (N_n N) t) j → fs (298 * t + j) = -4)) → ab_W Y_M_laysSteps none l (fun r m2 h2 => r = none ∧ m2 = m ∧ ∃ g1 g2 g3 g7 fs ft : Nat → Int32, h2 = HV (HL h (oM (N_n N) (N_ns N) (N_ra N) (N_se N) me mi (nI (TT (N_n N))) ve ve tl at_ wr fe kp) g1 g2 g3) g7 fs ft ∧ LY (N_n N) (6 ^ N_n N) g2 g3 ∧ ST N fs ft) 10 [some (.ref 56), some (.int (nI (k)))] [] m (HV (HL h (oM (N_n N) (N_ns N) (N_ra N) (N_se N) me mi (nI (TT (N_n N))) ve la tl at_ wr fe kp) g1 g2 g3) g7 fs ft) (0, 0) := by
      intro kf
      induction kf with
      | zero =>
        intro k g7 fs ft hk e0
        have hkn : 298 * TT (N_n N) = k := by omega
        subst hkn
        refine aw_iload_n d_M_laysSteps_10 rfl ?_
        refine aw_sipush (v := nI 298) d_M_laysSteps_11 (by decide) ?_
        refine aw_aload_n d_M_laysSteps_14 rfl ?_
        refine aw_get (k := 17) d_M_laysSteps_15 cl_Model k_M_220 (by decide) rfl rfl ?_
        refine aw_imul d_M_laysSteps_18 ?_
        rw [pk_mul]
        refine aw_icmp_ge (tgt := 100) d_M_laysSteps_19 (by decide) (fun c19 => ?_) (fun c19 => ?_)
        · refine aw_aload_n d_M_laysSteps_100 rfl ?_
          refine aw_aload_n d_M_laysSteps_101 rfl ?_
          refine aw_get (k := 25) d_M_laysSteps_102 cl_Model k_M_133 (by decide) rfl rfl ?_
          refine aw_put (k := 26) (fs' := [.int (nI (N_n N)), .ref 57, .ref 58, .ref 59, .ref 60, .ref 61, .ref 62, .ref 63, .int (nI (N_ns N)), .ref 64, .ref 65, .int (nI (N_ra N)), .int (nI (N_se N)), .int me, .int mi, .ref 66, .ref 67, .int (nI (TT (N_n N))), .ref 68, .ref 69, .ref 70, .ref 71, .ref 72, .ref 73, .ref 74, .int ve, .int ve, .ref 75, .ref 76, .int (nI tl), .int at_, .int wr, .ref 77, .ref 78, .int (nI fe), .ref 79, .ref 80, .ref 81, .ref 82, .ref 83, .ref 84, .int (ab_bl kp), .ref 85, .ref 86, .ref 87, .ref 88]) d_M_laysSteps_105 cl_Model k_M_73 (by decide) rfl ⟨rfl, rfl⟩ rfl (Nat.le_of_ble_eq_true rfl) rfl ?_
          refine aw_return d_M_laysSteps_108 rfl ?_
          rw [hv_56]
          exact ⟨rfl, rfl, g1, g2, g3, g7, fs, ft, rfl, hly, fun t ht j hj => e0 t ht j hj (by omega)⟩
        · exact absurd (Int32.le_refl _) c19
      | succ kf ih =>
        intro k g7 fs ft hk e0
        refine aw_iload_n d_M_laysSteps_10 rfl ?_
        refine aw_sipush (v := nI 298) d_M_laysSteps_11 (by decide) ?_
        refine aw_aload_n d_M_laysSteps_14 rfl ?_
        refine aw_get (k := 17) d_M_laysSteps_15 cl_Model k_M_220 (by decide) rfl rfl ?_
        refine aw_imul d_M_laysSteps_18 ?_
        rw [pk_mul]
        refine aw_icmp_ge (tgt := 100) d_M_laysSteps_19 (by decide) (fun c19 => ?_) (fun c19 => ?_)
        · exact absurd c19 (nI_ge (by omega) (by omega))
        · refine aw_aload_n d_M_laysSteps_22 rfl ?_
          refine aw_get (k := 26) d_M_laysSteps_23 cl_Model k_M_73 (by decide) rfl rfl ?_
          refine aw_aload_n d_M_laysSteps_26 rfl ?_
          refine aw_get (k := 25) d_M_laysSteps_27 cl_Model k_M_133 (by decide) rfl rfl ?_
          refine aw_icmp_eq (tgt := 100) d_M_laysSteps_30 (by decide) (fun c30 => ?_) (fun c30 => ?_)
          · exact absurd c30 hne
          · have htk : k / 298 < TT (N_n N) := by omega
            have hjk : k % 298 < 298 := Nat.mod_lt _ (by decide)
            refine aw_aload_n d_M_laysSteps_33 rfl ?_
            refine aw_get (k := 23) d_M_laysSteps_34 cl_Model k_M_67 (by decide) rfl rfl ?_
            refine aw_iload_n d_M_laysSteps_37 rfl ?_
            refine aw_aload_n d_M_laysSteps_38 rfl ?_
            refine aw_iload_n d_M_laysSteps_39 rfl ?_
            refine aw_sipush (v := nI 298) d_M_laysSteps_40 (by decide) ?_
            refine aw_idiv d_M_laysSteps_43 (by decide) ?_
            rw [dv (by omega) (by decide) (by decide)]
            refine aw_aload_n d_M_laysSteps_44 rfl ?_
            refine aw_iload_n d_M_laysSteps_45 rfl ?_
            refine aw_sipush (v := nI 298) d_M_laysSteps_46 (by decide) ?_
            refine aw_irem d_M_laysSteps_49 (by decide) ?_
            rw [rm (by omega) (by decide) (by decide)]
            refine aw_v0i (a := 56) d_M_laysSteps_50 k_M_230 ok_M_meetingAt rfl ⟨rfl, rfl⟩ cl_Model rfl (c_meetingAt hjk) rfl rfl (Nat.le_of_ble_eq_true rfl) ?_
            refine aw_v0 (a := 56) d_M_laysSteps_53 k_M_233 ok_M_stepBy rfl ⟨rfl, rfl⟩ cl_Model rfl (c_stepBy (h := HV (HL h (oM (N_n N) (N_ns N) (N_ra N) (N_se N) me mi (nI (TT (N_n N))) ve la tl at_ wr fe kp) g1 g2 g3) g7 fs ft) (N := N) rfl ⟨⟨gx, hx, ax⟩, ⟨gy, hy, ay⟩, ⟨gm, hm, am⟩, ⟨gh, hh, ah⟩, ⟨gl, hl, al⟩, ⟨gw, hw, aw⟩, ⟨ga, ha0, aa⟩, ⟨gi, hi, ai⟩, ⟨gj, hj0, aj⟩, ⟨gf, hf0, af⟩⟩ ok (g2 := g2) (g3 := g3) rfl rfl hly htk hjk (g7 := g7) rfl) rfl rfl (Nat.le_of_ble_eq_true rfl) (fun r m2 h2 z => ?_)
            obtain ⟨em, g7, rfl, v, rfl, hv1, hv2⟩ := z
            rw [em, hv_72]
            show ab_W _ _ _ _ 56 _ (.int v :: _) _ _ _
            refine aw_iastoreN d_M_laysSteps_56 rfl (by omega) (by decide) ?_
            rw [hv_73]
            refine aw_aload_n d_M_laysSteps_57 rfl ?_
            refine aw_get (k := 24) d_M_laysSteps_58 cl_Model k_M_70 (by decide) rfl rfl ?_
            refine aw_iload_n d_M_laysSteps_61 rfl ?_
            refine aw_aload_n d_M_laysSteps_62 rfl ?_
            refine aw_get (k := 23) d_M_laysSteps_63 cl_Model k_M_67 (by decide) rfl rfl ?_
            refine aw_iload_n d_M_laysSteps_66 rfl ?_
            refine aw_ialoadN d_M_laysSteps_67 rfl (by omega) (by decide) ?_
            rw [pk_us]
            refine aw_if_ge (tgt := 75) d_M_laysSteps_68 (by decide) (fun c68 => ?_) (fun c68 => ?_)
            · have hsok : sok N (prm (N_n N) (k / 298)) (k % 298) := Classical.byContradiction (fun z => by rw [hv2 z] at c68; exact absurd c68 (by decide))
              refine aw_aload_n d_M_laysSteps_75 rfl ?_
              refine aw_iload_n d_M_laysSteps_76 rfl ?_
              refine aw_sipush (v := nI 298) d_M_laysSteps_77 (by decide) ?_
              refine aw_idiv d_M_laysSteps_80 (by decide) ?_
              rw [dv (by omega) (by decide) (by decide)]
              refine aw_aload_n d_M_laysSteps_81 rfl ?_
              refine aw_iload_n d_M_laysSteps_82 rfl ?_
              refine aw_sipush (v := nI 298) d_M_laysSteps_83 (by decide) ?_
              refine aw_irem d_M_laysSteps_86 (by decide) ?_
              rw [rm (by omega) (by decide) (by decide)]
              refine aw_v0i (a := 56) d_M_laysSteps_87 k_M_230 ok_M_meetingAt rfl ⟨rfl, rfl⟩ cl_Model rfl (c_meetingAt hjk) rfl rfl (Nat.le_of_ble_eq_true rfl) ?_
              rw [show nv (k % 298) = nI (mtA (k % 298)) from if_neg hsok.1]
              refine aw_v0i (a := 56) d_M_laysSteps_90 k_M_236 ok_M_costOf rfl ⟨rfl, rfl⟩ cl_Model rfl (c_costOf (h := HV (HL h (oM (N_n N) (N_ns N) (N_ra N) (N_se N) me mi (nI (TT (N_n N))) ve la tl at_ wr fe kp) g1 g2 g3) g7 (upd fs k v) ft) (N := N) rfl ⟨⟨gx, hx, ax⟩, ⟨gy, hy, ay⟩, ⟨gm, hm, am⟩, ⟨gh, hh, ah⟩, ⟨gl, hl, al⟩, ⟨gw, hw, aw⟩, ⟨ga, ha0, aa⟩, ⟨gi, hi, ai⟩, ⟨gj, hj0, aj⟩, ⟨gf, hf0, af⟩⟩ ok (g2 := g2) (g3 := g3) rfl rfl hly htk hjk hsok) rfl rfl (Nat.le_of_ble_eq_true rfl) ?_
              refine aw_iastoreN d_M_laysSteps_93 rfl (by omega) (by decide) ?_
              refine aw_iinc (v := nI ((k) + 1)) (L' := [some (.ref 56), some (.int (nI ((k) + 1)))]) d_M_laysSteps_94 rfl (nI_1 _) ⟨by decide, rfl⟩ rfl ?_
              refine aw_goto (tgt := 10) d_M_laysSteps_97 (by decide) ?_
              rw [hv_74]
              refine ih (k + 1) g7 _ _ (by omega) (fun t ht j hj hlt => ?_)
              by_cases e : 298 * t + j = k
              · have e1 : k / 298 = t := by omega
                have e2 : k % 298 = j := by omega
                rw [e, pk_us, pk_us]
                rw [e1, e2] at hv1 hv2
                first
                  | (have nsok : ¬ sok N (prm (N_n N) t) j := fun z => by
                       rw [hv1 z] at c68
                       exact c68 (nI_pos' (by have := ((sto_Tb ok (Tb.pr_ hn6 ht) z.2.1).nu hn6).1; omega))
                     exact ⟨fun z => absurd z nsok, hv2⟩)
                  | (rw [e1, e2]
                     rw [e1, e2] at hsok
                     exact ⟨fun z => ⟨hv1 z, rfl⟩, fun z => absurd hsok z⟩)
              · rw [pk_un e, pk_un e]; exact e0 t ht j hj (by omega)
            · refine aw_iconst (v := nI 0) d_M_laysSteps_71 (by decide) ?_
              refine aw_goto (tgt := 93) d_M_laysSteps_72 (by decide) ?_
              refine aw_iastoreN d_M_laysSteps_93 rfl (by omega) (by decide) ?_
              refine aw_iinc (v := nI ((k) + 1)) (L' := [some (.ref 56), some (.int (nI ((k) + 1)))]) d_M_laysSteps_94 rfl (nI_1 _) ⟨by decide, rfl⟩ rfl ?_
              refine aw_goto (tgt := 10) d_M_laysSteps_97 (by decide) ?_
              rw [hv_74]
              refine ih (k + 1) g7 _ _ (by omega) (fun t ht j hj hlt => ?_)
              by_cases e : 298 * t + j = k
              · have e1 : k / 298 = t := by omega
                have e2 : k % 298 = j := by omega
                rw [e, pk_us, pk_us]
                rw [e1, e2] at hv1 hv2
                first
                  | (have nsok : ¬ sok N (prm (N_n N) t) j := fun z => by
                       rw [hv1 z] at c68
                       exact c68 (nI_pos' (by have := ((sto_Tb ok (Tb.pr_ hn6 ht) z.2.1).nu hn6).1; omega))
                     exact ⟨fun z => absurd z nsok, hv2⟩)
                  | (rw [e1, e2]
                     rw [e1, e2] at hsok
                     exact ⟨fun z => ⟨hv1 z, rfl⟩, fun z => absurd hsok z⟩)
              · rw [pk_un e, pk_un e]; exact e0 t ht j hj (by omega)
    exact loop (298 * TT (N_n N)) 0 d7 ds dt (by omega) (fun t ht j hj hlt => absurd hlt (Nat.not_lt_zero _))
